theorem cpy_shift {f : Int → Int} : cpy f f 1 0 39 = wr 39 f (fun x => f (x + 1)) := by
  funext j
  unfold cpy wr
  rw [show 1 + (j - 0) = j + 1 by omega, show (0 : Int) + 39 = 39 by omega]
set_option maxRecDepth 100000 in
set_option maxHeartbeats 1000000 in
theorem q_canGo2 (l : Launch) (g : ot_G) (ln : Nat) (ext : ot_L) (μ : ot_M) (t q : Int) (hq : -2147483648 ≤ q ∧ q ≤ 2147483647)(ht : 0 ≤ t ∧ t < 3) (hs : 0 ≤ μ 64 t ∧ μ 64 t ≤ 120) (hw : 1 ≤ μ 64 t → -2147483648 ≤ μ 65 (120 * t + (μ 64 t - 1)) ∧ μ 65 (120 * t + (μ 64 t - 1)) ≤ 2147483647) : ot_C l g yX10_canGo cX10_canGo 3 (some .boolean) 1 0 0 [.inr 60, .inl t, .inl q] (LL ln ext) μ (ot_pi (fun r L2 μ2 => L2 = LL ln ext ∧ μ2 = μ ∧ r = (if μ 64 t < 120 ∧ (μ 64 t = 0 ∨ μ 65 (120 * t + (μ 64 t - 1)) ≠ q) then 1 else 0))) := by
  refine ot_enter (by decide) (Nat.le_of_ble_eq_true rfl) ?_
  intro p e s m args below meth c X hr
  refine tt_aload_n X rfl dX10_canGo_0 ?_
  refine tt_getr X fX10_23 (k_60 _ _) (by decide) ⟨nofun, nofun⟩ rfl dX10_canGo_1 ?_
  refine tt_iload_n X rfl dX10_canGo_4 ?_
  refine tt_iaload X (k_64 _ _) (by omega) dX10_canGo_5 ?_
  refine tt_bipush X (by decide) dX10_canGo_6 ?_
  refine tt_icmp_ge X 41 (by omega) dX10_canGo_8 (by decide) (fun b8 => ?_) (fun b8 => ?_)
  · refine tt_iconst X dX10_canGo_41 ?_
    refine tt_zret X ⟨hr.1, hr.2.1⟩ (by omega) (by decide) (by decide) dX10_canGo_42 ?_
    refine ⟨rfl, rfl, ?_⟩
    first | (rw [if_pos (by omega)]; done) | rw [if_neg (by omega)]
  · refine tt_aload_n X rfl dX10_canGo_11 ?_
    refine tt_getr X fX10_23 (k_60 _ _) (by decide) ⟨nofun, nofun⟩ rfl dX10_canGo_12 ?_
    refine tt_iload_n X rfl dX10_canGo_15 ?_
    refine tt_iaload X (k_64 _ _) (by omega) dX10_canGo_16 ?_
    refine tt_if_eq X 37 (by omega) dX10_canGo_17 (by decide) (fun b17 => ?_) (fun b17 => ?_)
    · refine tt_iconst X dX10_canGo_37 ?_
      refine tt_goto X 42 dX10_canGo_38 (by decide) ?_
      refine tt_zret X ⟨hr.1, hr.2.1⟩ (by omega) (by decide) (by decide) dX10_canGo_42 ?_
      refine ⟨rfl, rfl, ?_⟩
      first | (rw [if_pos (by omega)]; done) | rw [if_neg (by omega)]
    · refine tt_aload_n X rfl dX10_canGo_20 ?_
      refine tt_iload_n X rfl dX10_canGo_21 ?_
      refine tt_aload_n X rfl dX10_canGo_22 ?_
      refine tt_getr X fX10_23 (k_60 _ _) (by decide) ⟨nofun, nofun⟩ rfl dX10_canGo_23 ?_
      refine tt_iload_n X rfl dX10_canGo_26 ?_
      refine tt_iaload X (k_64 _ _) (by omega) dX10_canGo_27 ?_
      refine tt_iconst X dX10_canGo_28 ?_
      refine tt_isub X dX10_canGo_29 ?_
      refine tt_vi X rfl mX10_239 (q_woundAt l g ln ext _ _ _ (by first | omega | (simp (disch := decide) only [ot_rd, ot_rs, ot_rf, ot_ucd, ot_ucs]; omega)) (by first | omega | (simp (disch := decide) only [ot_rd, ot_rs, ot_rf, ot_ucd, ot_ucs]; omega))) (k_60 _ _) ⟨_, rfl, rfl⟩ rfl rfl (Nat.le_of_ble_eq_true rfl) (by decide) (by decide) (by decide) dX10_canGo_30 (fun z30 L30 μ30 hp => ?_)
      obtain ⟨rfl, e30, hz30⟩ := hp
      replace e30 := e30.symm
      subst e30
      try simp (disch := decide) only [ot_rd, ot_rs, ot_rf, ot_ucd, ot_ucs] at hz30
      refine tt_iload_n X rfl dX10_canGo_33 ?_
      refine tt_icmp_eq X 41 (by first | omega | (simp (disch := decide) only [ot_rd, ot_rs, ot_rf, ot_ucd, ot_ucs]; omega)) dX10_canGo_34 (by decide) (fun b34 => ?_) (fun b34 => ?_)
      · refine tt_iconst X dX10_canGo_41 ?_
        refine tt_zret X ⟨hr.1, hr.2.1⟩ (by omega) (by decide) (by decide) dX10_canGo_42 ?_
        refine ⟨rfl, rfl, ?_⟩
        first | (rw [if_pos (by omega)]; done) | rw [if_neg (by omega)]
      · refine tt_iconst X dX10_canGo_37 ?_
        refine tt_goto X 42 dX10_canGo_38 (by decide) ?_
        refine tt_zret X ⟨hr.1, hr.2.1⟩ (by omega) (by decide) (by decide) dX10_canGo_42 ?_
        refine ⟨rfl, rfl, ?_⟩
        first | (rw [if_pos (by omega)]; done) | rw [if_neg (by omega)]
set_option maxRecDepth 100000 in
set_option maxHeartbeats 1000000 in
theorem q_winding (l : Launch) (g : ot_G) (ln : Nat) (ext : ot_L) (μ : ot_M) (h0 : μ 60 0 = 0) (t q : Int) (ht : -2147483648 ≤ t ∧ t ≤ 2147483647) (hq : -2147483648 ≤ q ∧ q ≤ 2147483647)(hG : gPin (μ 60 1) (μ 60 2) (μ 61) (μ 62)) (hW : gWnd (μ 60 2) (μ 64) (μ 65)) (hL : gLawQ (μ 60 23) (μ 77) (μ 78) (μ 74) (μ 75) (μ 76)) (hs : gShd (μ 63)) (hU : 0 ≤ μ 60 14 ∧ μ 60 14 ≤ 40) : ot_C l g yX10_winding cX10_winding 4 (some .int) 4 0 0 [.inr 60, .inl t, .inl q] (LL ln ext) μ (ot_pi (fun r L2 μ2 => L2 = LL ln ext ∧ ((¬ ((0 ≤ t ∧ t < 3) ∧ (0 ≤ q ∧ q < μ 60 2) ∧ μ 64 t < 120 ∧ (μ 64 t = 0 ∨ μ 65 (120 * t + (μ 64 t - 1)) ≠ q)) ∧ r = -1 ∧ μ2 = μ) ∨ (((0 ≤ t ∧ t < 3) ∧ (0 ≤ q ∧ q < μ 60 2) ∧ μ 64 t < 120 ∧ (μ 64 t = 0 ∨ μ 65 (120 * t + (μ 64 t - 1)) ≠ q)) ∧ mayS (μ 77) (μ 78) (μ 74) (μ 75) (μ 76) (μ 60 23) (μ 61) (μ 62) (μ 64) (μ 65) (μ 63) t q = 0 ∧ r = -2 ∧ eqx [80, 81] μ μ2) ∨ (((0 ≤ t ∧ t < 3) ∧ (0 ≤ q ∧ q < μ 60 2) ∧ μ 64 t < 120 ∧ (μ 64 t = 0 ∨ μ 65 (120 * t + (μ 64 t - 1)) ≠ q)) ∧ mayS (μ 77) (μ 78) (μ 74) (μ 75) (μ 76) (μ 60 23) (μ 61) (μ 62) (μ 64) (μ 65) (μ 63) t q = 1 ∧ r = μ 64 t + 1 ∧ eqx [80, 81, 65, 64, 71, 60] μ μ2 ∧ μ2 65 = up1 (μ 65) (120 * t + μ 64 t) q ∧ μ2 64 = up1 (μ 64) t (μ 64 t + 1) ∧ μ2 71 = undoA (μ 71) (μ 60 14) t ∧ μ2 60 = up1 (μ 60) 14 (min (μ 60 14 + 1) 40))))) := by
  refine ot_enter (by decide) (Nat.le_of_ble_eq_true rfl) ?_
  intro p e s m args below meth c X hr
  have hNn := hG.2.1
  have hWb : (0 ≤ t ∧ t < 3) → 0 ≤ μ 64 t ∧ μ 64 t ≤ 120 := fun h => (hW t h.1 h.2).1
  have hWl : (0 ≤ t ∧ t < 3) → 1 ≤ μ 64 t → 0 ≤ μ 65 (120 * t + (μ 64 t - 1)) ∧ μ 65 (120 * t + (μ 64 t - 1)) < μ 60 2 := fun h w => (hW t h.1 h.2).2.1 (μ 64 t - 1) (by omega) (by omega)
  refine tt_aload_n X rfl dX10_winding_0 ?_
  refine tt_iconst X dX10_winding_1 ?_
  refine tt_puti X fX10_98 kc_10 (k_60 _ _) (by decide) (fun q hq => by cases hq; rfl) rfl dX10_winding_2 ?_
  refine tt_mem (ot_nop h0) ?_
  refine tt_aload_n X rfl dX10_winding_5 ?_
  refine tt_iload_n X rfl dX10_winding_6 ?_
  refine tt_vi X rfl mX10_125 (q_isThread l g ln ext _ _ (by first | omega | (simp (disch := decide) only [ot_rd, ot_rs, ot_rf, ot_ucd, ot_ucs]; omega))) (k_60 _ _) ⟨_, rfl, rfl⟩ rfl rfl (Nat.le_of_ble_eq_true rfl) (by decide) (by decide) (by decide) dX10_winding_7 (fun z7 L7 μ7 hp => ?_)
  obtain ⟨rfl, e7, hz7⟩ := hp
  replace e7 := e7.symm
  subst e7
  refine tt_if_eq X 30 (by first | omega | (simp (disch := decide) only [ot_rd, ot_rs, ot_rf, ot_ucd, ot_ucs]; omega)) dX10_winding_10 (by decide) (fun b10 => ?_) (fun b10 => ?_)
  · refine tt_iconst X dX10_winding_30 ?_
    refine tt_iret X ⟨hr.1, hr.2.1⟩ (by decide) (by decide) dX10_winding_31 ?_
    refine ⟨rfl, Or.inl ⟨?_, rfl, rfl⟩⟩
    first | omega | (intro w; rw [if_pos ⟨w.2.2.1, w.2.2.2⟩] at hz24; omega)
  · refine tt_aload_n X rfl dX10_winding_13 ?_
    refine tt_iload_n X rfl dX10_winding_14 ?_
    refine tt_vi X rfl mX10_252 (q_isPin l g ln ext _ _ (by first | omega | (simp (disch := decide) only [ot_rd, ot_rs, ot_rf, ot_ucd, ot_ucs]; omega)) (by first | omega | (simp (disch := decide) only [ot_rd, ot_rs, ot_rf, ot_ucd, ot_ucs]; omega))) (k_60 _ _) ⟨_, rfl, rfl⟩ rfl rfl (Nat.le_of_ble_eq_true rfl) (by decide) (by decide) (by decide) dX10_winding_15 (fun z15 L15 μ15 hp => ?_)
    obtain ⟨rfl, e15, hz15⟩ := hp
    replace e15 := e15.symm
    subst e15
    refine tt_if_eq X 30 (by first | omega | (simp (disch := decide) only [ot_rd, ot_rs, ot_rf, ot_ucd, ot_ucs]; omega)) dX10_winding_18 (by decide) (fun b18 => ?_) (fun b18 => ?_)
    · refine tt_iconst X dX10_winding_30 ?_
      refine tt_iret X ⟨hr.1, hr.2.1⟩ (by decide) (by decide) dX10_winding_31 ?_
      refine ⟨rfl, Or.inl ⟨?_, rfl, rfl⟩⟩
      first | omega | (intro w; rw [if_pos ⟨w.2.2.1, w.2.2.2⟩] at hz24; omega)
    · refine tt_aload_n X rfl dX10_winding_21 ?_
      refine tt_iload_n X rfl dX10_winding_22 ?_
      refine tt_iload_n X rfl dX10_winding_23 ?_
      refine tt_vi X rfl mX10_255 (q_canGo2 l g ln ext _ _ _ (by omega) (by omega) (hWb (by omega)) (fun w => by have := hWl (by omega) w; omega)) (k_60 _ _) ⟨_, rfl, rfl⟩ rfl rfl (Nat.le_of_ble_eq_true rfl) (by decide) (by decide) (by decide) dX10_winding_24 (fun z24 L24 μ24 hp => ?_)
      obtain ⟨rfl, e24, hz24⟩ := hp
      replace e24 := e24.symm
      subst e24
      refine tt_if_ne X 32 (by first | omega | (simp (disch := decide) only [ot_rd, ot_rs, ot_rf, ot_ucd, ot_ucs]; omega)) dX10_winding_27 (by decide) (fun b27 => ?_) (fun b27 => ?_)
      · have hcan := can_one hz24 (by omega)
        have hb0 := hWb (by omega)
        refine tt_aload_n X rfl dX10_winding_32 ?_
        refine tt_getr X fX10_23 (k_60 _ _) (by decide) ⟨nofun, nofun⟩ rfl dX10_winding_33 ?_
        refine tt_iload_n X rfl dX10_winding_36 ?_
        refine tt_iaload X (k_64 _ _) (by first | omega | (simp (disch := decide) only [ot_rd, ot_rs, ot_rf, ot_ucd, ot_ucs]; omega)) dX10_winding_37 ?_
        try simp (disch := decide) only [ot_rd, ot_rs, ot_rf, ot_ucd, ot_ucs]
        refine tt_if_le X 53 (by first | omega | (simp (disch := decide) only [ot_rd, ot_rs, ot_rf, ot_ucd, ot_ucs]; omega)) dX10_winding_38 (by decide) (fun b38 => ?_) (fun b38 => ?_)
        · refine tt_aload_n X rfl dX10_winding_53 ?_
          refine tt_iload_n X rfl dX10_winding_54 ?_
          refine tt_iload_n X rfl dX10_winding_55 ?_
          refine tt_vv X rfl mX10_261 (q_goesOn l g ln ext _ _ _ (by omega) (by (try simp (disch := decide) only [ot_rd, ot_rs, ot_rf, ot_ucd, ot_ucs, ot_rdf]); omega)) (k_60 _ _) ⟨_, rfl, rfl⟩ rfl rfl (Nat.le_of_ble_eq_true rfl) (by decide) (by decide) (by decide) dX10_winding_56 (fun L56 μ56 hp => ?_)
          obtain ⟨rfl, rfl⟩ := hp
          try simp (disch := decide) only [ot_rd, ot_rs, ot_rf, ot_ucd, ot_ucs, ot_rdf]
          refine tt_gen (fun ρ hρ => ?_)
          have h65 : ρ 65 = up1 (μ 65) (120 * t + μ 64 t) q := by rw [hρ]; simp (disch := decide) only [ot_up_uc, ot_ucd, ot_ucs]
          have h64 : ρ 64 = up1 (μ 64) t (μ 64 t + 1) := by rw [hρ]; simp (disch := decide) only [ot_up_uc, ot_ucd, ot_ucs]
          have heR : ∀ k, k ∉ [80, 81, 65, 64] → ρ k = μ k := by
            have : eqx [80, 81, 65, 64] μ ρ := by
              rw [hρ]
              repeat first | exact eqx_rfl _ _ | refine eqx_uc ?_ (by decide) | refine eqx_up ?_ (by decide)
            exact this
          have hmq1 : mayS (μ 77) (μ 78) (μ 74) (μ 75) (μ 76) (μ 60 23) (μ 61) (μ 62) (μ 64) (μ 65) (μ 63) t q = 1 := by
            first
              | (rw [hmq]; omega)
              | (unfold mayS; rw [if_pos (by omega), if_pos (by omega)])
          refine tt_aload_n X rfl dX10_winding_59 ?_
          refine tt_geti X fX10_111 (k_60 _ _) (by decide) (Or.inl rfl) dX10_winding_60 ?_
          try simp (disch := decide) only [ot_rd, ot_rs, ot_rf, ot_ucd, ot_ucs, heR]
          refine tt_bipush X (by decide) dX10_winding_63 ?_
          refine tt_icmp_ne X 108 (by first | omega | (simp (disch := decide) only [ot_rd, ot_rs, ot_rf, ot_ucd, ot_ucs, heR]; omega)) dX10_winding_65 (by decide) (fun b65 => ?_) (fun b65 => ?_)
          · refine tt_aload_n X rfl dX10_winding_108 ?_
            refine tt_getr X fX10_44 (k_60 _ _) (by decide) ⟨nofun, nofun⟩ rfl dX10_winding_109 ?_
            refine tt_aload_n X rfl dX10_winding_112 ?_
            refine tt_geti X fX10_111 (k_60 _ _) (by decide) (Or.inl rfl) dX10_winding_113 ?_
            try simp (disch := decide) only [ot_rd, ot_rs, ot_rf, ot_ucd, ot_ucs, heR]
            refine tt_iload_n X rfl dX10_winding_116 ?_
            refine tt_iastore X (k_71 _ _) (by first | omega | (simp (disch := decide) only [ot_rd, ot_rs, ot_rf, ot_ucd, ot_ucs, heR]; omega)) dX10_winding_117 ?_
            refine tt_aload_n X rfl dX10_winding_118 ?_
            refine tt_aload_n X rfl dX10_winding_119 ?_
            refine tt_geti X fX10_111 (k_60 _ _) (by decide) (Or.inl rfl) dX10_winding_120 ?_
            try simp (disch := decide) only [ot_rd, ot_rs, ot_rf, ot_ucd, ot_ucs, heR]
            refine tt_iconst X dX10_winding_123 ?_
            refine tt_iadd X dX10_winding_124 ?_
            refine tt_puti X fX10_111 kc_10 (k_60 _ _) (by decide) (fun q hq => by cases hq; rfl) rfl dX10_winding_125 ?_
            refine tt_aload_n X rfl dX10_winding_128 ?_
            refine tt_getr X fX10_23 (k_60 _ _) (by decide) ⟨nofun, nofun⟩ rfl dX10_winding_129 ?_
            refine tt_iload_n X rfl dX10_winding_132 ?_
            refine tt_iaload X (k_64 _ _) (by omega) dX10_winding_133 ?_
            try simp (disch := decide) only [ot_rd, ot_rs, ot_rf, ot_ucd, ot_ucs, heR]
            have hUx : True := trivial
            refine tt_iret X ⟨hr.1, hr.2.1⟩ (by decide) (by decide) dX10_winding_134 ?_
            refine ⟨rfl, Or.inr (Or.inr ⟨by omega, hmq1, ?_, ?_, ?_, ?_, ?_, ?_⟩)⟩
            · rw [h64, up1_s]
            · intro k hk
              have h1 : ρ k = μ k := heR k (by intro hk2; apply hk; revert hk2; simp; omega)
              have h2 : k ≠ 60 := by intro w; apply hk; rw [w]; decide
              have h3 : k ≠ 71 := by intro w; apply hk; rw [w]; decide
              simp only [ot_up_uc, ot_ucs]
              simp only [ot_ucd h2, ot_ucd h3]
              exact h1
            · simp (disch := decide) only [ot_rd, ot_rs, ot_rf, ot_ucd, ot_ucs, ot_rdf]; exact h65
            · simp (disch := decide) only [ot_rd, ot_rs, ot_rf, ot_ucd, ot_ucs, ot_rdf]; exact h64
            · unfold undoA
              simp (disch := decide) only [ot_up_uc, ot_ucd, ot_ucs, heR]
              first
                | (rw [if_pos (by omega)]; done)
                | (rw [if_neg (by omega), cpy_shift, show j = 39 by omega])
            · simp (disch := decide) only [ot_up_uc, ot_ucd, ot_ucs, heR]
              first
                | (rw [show min (μ 60 14 + 1) 40 = μ 60 14 + 1 by omega]; done)
                | (rw [show min (μ 60 14 + 1) 40 = 40 by omega, up1_up1]; (try simp only [up1_s]); first | rfl | (congr 1; omega))
          · refine tt_aload_n X rfl dX10_winding_68 ?_
            refine tt_aload_n X rfl dX10_winding_69 ?_
            refine tt_geti X fX10_111 (k_60 _ _) (by decide) (Or.inl rfl) dX10_winding_70 ?_
            try simp (disch := decide) only [ot_rd, ot_rs, ot_rf, ot_ucd, ot_ucs, heR]
            refine tt_iconst X dX10_winding_73 ?_
            refine tt_isub X dX10_winding_74 ?_
            refine tt_puti X fX10_111 kc_10 (k_60 _ _) (by decide) (fun q hq => by cases hq; rfl) rfl dX10_winding_75 ?_
            refine tt_iconst X dX10_winding_78 ?_
            refine tt_istore_n X dX10_winding_79 (by decide) ?_
            refine tt_mem (μ' := ot_uc (ot_up ρ 60 14 39) 71 (wr 0 (μ 71) (fun x => μ 71 (x + 1)))) (by rw [wr_zero, show (39 : Int) = μ 60 14 - 1 by omega]; exact (ot_uc_id (by simp (disch := decide) only [ot_rdf, heR])).symm) ?_
            refine tt_loc [(0, _), (1, _), (2, _), (3, _)] ⟨rfl, rfl, rfl, rfl, trivial⟩ ?_
            refine tt_loop (α := Int) (fun j => (39 - j).toNat) (fun j => 0 ≤ j ∧ j ≤ 39) (fun j => ot_uc (ot_up ρ 60 14 39) 71 (wr j (μ 71) (fun x => μ 71 (x + 1)))) (fun j => [(0, .inr 60), (1, .inl t), (2, .inl q), (3, .inl j)]) 0 (by omega) ?_
            intro j hI ih
            try dsimp only at hI ih ⊢
            refine tt_iload_n X rfl dX10_winding_80 ?_
            refine tt_aload_n X rfl dX10_winding_81 ?_
            refine tt_geti X fX10_111 (k_60 _ _) (by decide) (Or.inl rfl) dX10_winding_82 ?_
            try simp (disch := decide) only [ot_rd, ot_rs, ot_rf, ot_ucd, ot_ucs, heR]
            refine tt_icmp_ge X 108 (by first | omega | (simp (disch := decide) only [ot_rd, ot_rs, ot_rf, ot_ucd, ot_ucs, heR]; omega)) dX10_winding_85 (by decide) (fun b85 => ?_) (fun b85 => ?_)
            · refine tt_aload_n X rfl dX10_winding_108 ?_
              refine tt_getr X fX10_44 (k_60 _ _) (by decide) ⟨nofun, nofun⟩ rfl dX10_winding_109 ?_
              refine tt_aload_n X rfl dX10_winding_112 ?_
              refine tt_geti X fX10_111 (k_60 _ _) (by decide) (Or.inl rfl) dX10_winding_113 ?_
              try simp (disch := decide) only [ot_rd, ot_rs, ot_rf, ot_ucd, ot_ucs, heR]
              refine tt_iload_n X rfl dX10_winding_116 ?_
              refine tt_iastore X (k_71 _ _) (by first | omega | (simp (disch := decide) only [ot_rd, ot_rs, ot_rf, ot_ucd, ot_ucs, heR]; omega)) dX10_winding_117 ?_
              refine tt_aload_n X rfl dX10_winding_118 ?_
              refine tt_aload_n X rfl dX10_winding_119 ?_
              refine tt_geti X fX10_111 (k_60 _ _) (by decide) (Or.inl rfl) dX10_winding_120 ?_
              try simp (disch := decide) only [ot_rd, ot_rs, ot_rf, ot_ucd, ot_ucs, heR]
              refine tt_iconst X dX10_winding_123 ?_
              refine tt_iadd X dX10_winding_124 ?_
              refine tt_puti X fX10_111 kc_10 (k_60 _ _) (by decide) (fun q hq => by cases hq; rfl) rfl dX10_winding_125 ?_
              refine tt_aload_n X rfl dX10_winding_128 ?_
              refine tt_getr X fX10_23 (k_60 _ _) (by decide) ⟨nofun, nofun⟩ rfl dX10_winding_129 ?_
              refine tt_iload_n X rfl dX10_winding_132 ?_
              refine tt_iaload X (k_64 _ _) (by omega) dX10_winding_133 ?_
              try simp (disch := decide) only [ot_rd, ot_rs, ot_rf, ot_ucd, ot_ucs, heR]
              have hUx : True := trivial
              refine tt_iret X ⟨hr.1, hr.2.1⟩ (by decide) (by decide) dX10_winding_134 ?_
              refine ⟨rfl, Or.inr (Or.inr ⟨by omega, hmq1, ?_, ?_, ?_, ?_, ?_, ?_⟩)⟩
              · rw [h64, up1_s]
              · intro k hk
                have h1 : ρ k = μ k := heR k (by intro hk2; apply hk; revert hk2; simp; omega)
                have h2 : k ≠ 60 := by intro w; apply hk; rw [w]; decide
                have h3 : k ≠ 71 := by intro w; apply hk; rw [w]; decide
                simp only [ot_up_uc, ot_ucs]
                simp only [ot_ucd h2, ot_ucd h3]
                exact h1
              · simp (disch := decide) only [ot_rd, ot_rs, ot_rf, ot_ucd, ot_ucs, ot_rdf]; exact h65
              · simp (disch := decide) only [ot_rd, ot_rs, ot_rf, ot_ucd, ot_ucs, ot_rdf]; exact h64
              · unfold undoA
                simp (disch := decide) only [ot_up_uc, ot_ucd, ot_ucs, heR]
                first
                  | (rw [if_pos (by omega)]; done)
                  | (rw [if_neg (by omega), cpy_shift, show j = 39 by omega])
              · simp (disch := decide) only [ot_up_uc, ot_ucd, ot_ucs, heR]
                first
                  | (rw [show min (μ 60 14 + 1) 40 = μ 60 14 + 1 by omega]; done)
                  | (rw [show min (μ 60 14 + 1) 40 = 40 by omega, up1_up1]; (try simp only [up1_s]); first | rfl | (congr 1; omega))
            · refine tt_aload_n X rfl dX10_winding_88 ?_
              refine tt_getr X fX10_44 (k_60 _ _) (by decide) ⟨nofun, nofun⟩ rfl dX10_winding_89 ?_
              refine tt_iload_n X rfl dX10_winding_92 ?_
              refine tt_aload_n X rfl dX10_winding_93 ?_
              refine tt_getr X fX10_44 (k_60 _ _) (by decide) ⟨nofun, nofun⟩ rfl dX10_winding_94 ?_
              refine tt_iload_n X rfl dX10_winding_97 ?_
              refine tt_iconst X dX10_winding_98 ?_
              refine tt_iadd X dX10_winding_99 ?_
              refine tt_iaload X (k_71 _ _) (by first | omega | (simp (disch := decide) only [ot_rd, ot_rs, ot_rf, ot_ucd, ot_ucs, heR]; omega)) dX10_winding_100 ?_
              try simp (disch := decide) only [ot_rd, ot_rs, ot_rf, ot_ucd, ot_ucs, heR]
              refine tt_iastore X (k_71 _ _) (by first | omega | (simp (disch := decide) only [ot_rd, ot_rs, ot_rf, ot_ucd, ot_ucs, heR]; omega)) dX10_winding_101 ?_
              refine tt_iinc X dX10_winding_102 rfl (by decide) ?_
              refine tt_goto X 80 dX10_winding_105 (by decide) ?_
              refine tt_loc [(0, _), (1, _), (2, _), (3, _)] ⟨rfl, rfl, rfl, rfl, trivial⟩ ?_
              refine tt_mem (μ' := ot_uc (ot_up ρ 60 14 39) 71 (wr (j + 1) (μ 71) (fun x => μ 71 (x + 1)))) (by exact ot_uc_wr (by omega) (wr_out (by omega))) ?_
              exact ih (j + 1) (by omega) (by omega)
        · refine tt_aload_n X rfl dX10_winding_41 ?_
          refine tt_iload_n X rfl dX10_winding_42 ?_
          refine tt_iload_n X rfl dX10_winding_43 ?_
          refine tt_vi X rfl mX10_258 (q_lets l g ln ext _ _ _ hG hW hs hL (by omega) (by omega) (by omega) (by have := can_one hz24 (by omega); omega)) (k_60 _ _) ⟨_, rfl, rfl⟩ rfl rfl (Nat.le_of_ble_eq_true rfl) (by decide) (by decide) (by decide) dX10_winding_44 (fun z44 L44 μ44 hp => ?_)
          obtain ⟨rfl, hz44, f44, S44, rfl⟩ := hp
          have hmq : mayS (μ 77) (μ 78) (μ 74) (μ 75) (μ 76) (μ 60 23) (μ 61) (μ 62) (μ 64) (μ 65) (μ 63) t q = z44 := by rw [hz44]; exact gLaw_can (by omega) hz24 (by omega)
          have hz44b : z44 = 0 ∨ z44 = 1 := by rw [hz44]; exact lawS_bool _
          refine tt_if_ne X 53 (by first | omega | (simp (disch := decide) only [ot_rd, ot_rs, ot_rf, ot_ucd, ot_ucs]; omega)) dX10_winding_47 (by decide) (fun b47 => ?_) (fun b47 => ?_)
          · refine tt_aload_n X rfl dX10_winding_53 ?_
            refine tt_iload_n X rfl dX10_winding_54 ?_
            refine tt_iload_n X rfl dX10_winding_55 ?_
            refine tt_vv X rfl mX10_261 (q_goesOn l g ln ext _ _ _ (by omega) (by (try simp (disch := decide) only [ot_rd, ot_rs, ot_rf, ot_ucd, ot_ucs, ot_rdf]); omega)) (k_60 _ _) ⟨_, rfl, rfl⟩ rfl rfl (Nat.le_of_ble_eq_true rfl) (by decide) (by decide) (by decide) dX10_winding_56 (fun L56 μ56 hp => ?_)
            obtain ⟨rfl, rfl⟩ := hp
            try simp (disch := decide) only [ot_rd, ot_rs, ot_rf, ot_ucd, ot_ucs, ot_rdf]
            refine tt_gen (fun ρ hρ => ?_)
            have h65 : ρ 65 = up1 (μ 65) (120 * t + μ 64 t) q := by rw [hρ]; simp (disch := decide) only [ot_up_uc, ot_ucd, ot_ucs]
            have h64 : ρ 64 = up1 (μ 64) t (μ 64 t + 1) := by rw [hρ]; simp (disch := decide) only [ot_up_uc, ot_ucd, ot_ucs]
            have heR : ∀ k, k ∉ [80, 81, 65, 64] → ρ k = μ k := by
              have : eqx [80, 81, 65, 64] μ ρ := by
                rw [hρ]
                repeat first | exact eqx_rfl _ _ | refine eqx_uc ?_ (by decide) | refine eqx_up ?_ (by decide)
              exact this
            have hmq1 : mayS (μ 77) (μ 78) (μ 74) (μ 75) (μ 76) (μ 60 23) (μ 61) (μ 62) (μ 64) (μ 65) (μ 63) t q = 1 := by
              first
                | (rw [hmq]; omega)
                | (unfold mayS; rw [if_pos (by omega), if_pos (by omega)])
            refine tt_aload_n X rfl dX10_winding_59 ?_
            refine tt_geti X fX10_111 (k_60 _ _) (by decide) (Or.inl rfl) dX10_winding_60 ?_
            try simp (disch := decide) only [ot_rd, ot_rs, ot_rf, ot_ucd, ot_ucs, heR]
            refine tt_bipush X (by decide) dX10_winding_63 ?_
            refine tt_icmp_ne X 108 (by first | omega | (simp (disch := decide) only [ot_rd, ot_rs, ot_rf, ot_ucd, ot_ucs, heR]; omega)) dX10_winding_65 (by decide) (fun b65 => ?_) (fun b65 => ?_)
            · refine tt_aload_n X rfl dX10_winding_108 ?_
              refine tt_getr X fX10_44 (k_60 _ _) (by decide) ⟨nofun, nofun⟩ rfl dX10_winding_109 ?_
              refine tt_aload_n X rfl dX10_winding_112 ?_
              refine tt_geti X fX10_111 (k_60 _ _) (by decide) (Or.inl rfl) dX10_winding_113 ?_
              try simp (disch := decide) only [ot_rd, ot_rs, ot_rf, ot_ucd, ot_ucs, heR]
              refine tt_iload_n X rfl dX10_winding_116 ?_
              refine tt_iastore X (k_71 _ _) (by first | omega | (simp (disch := decide) only [ot_rd, ot_rs, ot_rf, ot_ucd, ot_ucs, heR]; omega)) dX10_winding_117 ?_
              refine tt_aload_n X rfl dX10_winding_118 ?_
              refine tt_aload_n X rfl dX10_winding_119 ?_
              refine tt_geti X fX10_111 (k_60 _ _) (by decide) (Or.inl rfl) dX10_winding_120 ?_
              try simp (disch := decide) only [ot_rd, ot_rs, ot_rf, ot_ucd, ot_ucs, heR]
              refine tt_iconst X dX10_winding_123 ?_
              refine tt_iadd X dX10_winding_124 ?_
              refine tt_puti X fX10_111 kc_10 (k_60 _ _) (by decide) (fun q hq => by cases hq; rfl) rfl dX10_winding_125 ?_
              refine tt_aload_n X rfl dX10_winding_128 ?_
              refine tt_getr X fX10_23 (k_60 _ _) (by decide) ⟨nofun, nofun⟩ rfl dX10_winding_129 ?_
              refine tt_iload_n X rfl dX10_winding_132 ?_
              refine tt_iaload X (k_64 _ _) (by omega) dX10_winding_133 ?_
              try simp (disch := decide) only [ot_rd, ot_rs, ot_rf, ot_ucd, ot_ucs, heR]
              have hUx : True := trivial
              refine tt_iret X ⟨hr.1, hr.2.1⟩ (by decide) (by decide) dX10_winding_134 ?_
              refine ⟨rfl, Or.inr (Or.inr ⟨by omega, hmq1, ?_, ?_, ?_, ?_, ?_, ?_⟩)⟩
              · rw [h64, up1_s]
              · intro k hk
                have h1 : ρ k = μ k := heR k (by intro hk2; apply hk; revert hk2; simp; omega)
                have h2 : k ≠ 60 := by intro w; apply hk; rw [w]; decide
                have h3 : k ≠ 71 := by intro w; apply hk; rw [w]; decide
                simp only [ot_up_uc, ot_ucs]
                simp only [ot_ucd h2, ot_ucd h3]
                exact h1
              · simp (disch := decide) only [ot_rd, ot_rs, ot_rf, ot_ucd, ot_ucs, ot_rdf]; exact h65
              · simp (disch := decide) only [ot_rd, ot_rs, ot_rf, ot_ucd, ot_ucs, ot_rdf]; exact h64
              · unfold undoA
                simp (disch := decide) only [ot_up_uc, ot_ucd, ot_ucs, heR]
                first
                  | (rw [if_pos (by omega)]; done)
                  | (rw [if_neg (by omega), cpy_shift, show j = 39 by omega])
              · simp (disch := decide) only [ot_up_uc, ot_ucd, ot_ucs, heR]
                first
                  | (rw [show min (μ 60 14 + 1) 40 = μ 60 14 + 1 by omega]; done)
                  | (rw [show min (μ 60 14 + 1) 40 = 40 by omega, up1_up1]; (try simp only [up1_s]); first | rfl | (congr 1; omega))
            · refine tt_aload_n X rfl dX10_winding_68 ?_
              refine tt_aload_n X rfl dX10_winding_69 ?_
              refine tt_geti X fX10_111 (k_60 _ _) (by decide) (Or.inl rfl) dX10_winding_70 ?_
              try simp (disch := decide) only [ot_rd, ot_rs, ot_rf, ot_ucd, ot_ucs, heR]
              refine tt_iconst X dX10_winding_73 ?_
              refine tt_isub X dX10_winding_74 ?_
              refine tt_puti X fX10_111 kc_10 (k_60 _ _) (by decide) (fun q hq => by cases hq; rfl) rfl dX10_winding_75 ?_
              refine tt_iconst X dX10_winding_78 ?_
              refine tt_istore_n X dX10_winding_79 (by decide) ?_
              refine tt_mem (μ' := ot_uc (ot_up ρ 60 14 39) 71 (wr 0 (μ 71) (fun x => μ 71 (x + 1)))) (by rw [wr_zero, show (39 : Int) = μ 60 14 - 1 by omega]; exact (ot_uc_id (by simp (disch := decide) only [ot_rdf, heR])).symm) ?_
              refine tt_loc [(0, _), (1, _), (2, _), (3, _)] ⟨rfl, rfl, rfl, rfl, trivial⟩ ?_
              refine tt_loop (α := Int) (fun j => (39 - j).toNat) (fun j => 0 ≤ j ∧ j ≤ 39) (fun j => ot_uc (ot_up ρ 60 14 39) 71 (wr j (μ 71) (fun x => μ 71 (x + 1)))) (fun j => [(0, .inr 60), (1, .inl t), (2, .inl q), (3, .inl j)]) 0 (by omega) ?_
              intro j hI ih
              try dsimp only at hI ih ⊢
              refine tt_iload_n X rfl dX10_winding_80 ?_
              refine tt_aload_n X rfl dX10_winding_81 ?_
              refine tt_geti X fX10_111 (k_60 _ _) (by decide) (Or.inl rfl) dX10_winding_82 ?_
              try simp (disch := decide) only [ot_rd, ot_rs, ot_rf, ot_ucd, ot_ucs, heR]
              refine tt_icmp_ge X 108 (by first | omega | (simp (disch := decide) only [ot_rd, ot_rs, ot_rf, ot_ucd, ot_ucs, heR]; omega)) dX10_winding_85 (by decide) (fun b85 => ?_) (fun b85 => ?_)
              · refine tt_aload_n X rfl dX10_winding_108 ?_
                refine tt_getr X fX10_44 (k_60 _ _) (by decide) ⟨nofun, nofun⟩ rfl dX10_winding_109 ?_
                refine tt_aload_n X rfl dX10_winding_112 ?_
                refine tt_geti X fX10_111 (k_60 _ _) (by decide) (Or.inl rfl) dX10_winding_113 ?_
                try simp (disch := decide) only [ot_rd, ot_rs, ot_rf, ot_ucd, ot_ucs, heR]
                refine tt_iload_n X rfl dX10_winding_116 ?_
                refine tt_iastore X (k_71 _ _) (by first | omega | (simp (disch := decide) only [ot_rd, ot_rs, ot_rf, ot_ucd, ot_ucs, heR]; omega)) dX10_winding_117 ?_
                refine tt_aload_n X rfl dX10_winding_118 ?_
                refine tt_aload_n X rfl dX10_winding_119 ?_
                refine tt_geti X fX10_111 (k_60 _ _) (by decide) (Or.inl rfl) dX10_winding_120 ?_
                try simp (disch := decide) only [ot_rd, ot_rs, ot_rf, ot_ucd, ot_ucs, heR]
                refine tt_iconst X dX10_winding_123 ?_
                refine tt_iadd X dX10_winding_124 ?_
                refine tt_puti X fX10_111 kc_10 (k_60 _ _) (by decide) (fun q hq => by cases hq; rfl) rfl dX10_winding_125 ?_
                refine tt_aload_n X rfl dX10_winding_128 ?_
                refine tt_getr X fX10_23 (k_60 _ _) (by decide) ⟨nofun, nofun⟩ rfl dX10_winding_129 ?_
                refine tt_iload_n X rfl dX10_winding_132 ?_
                refine tt_iaload X (k_64 _ _) (by omega) dX10_winding_133 ?_
                try simp (disch := decide) only [ot_rd, ot_rs, ot_rf, ot_ucd, ot_ucs, heR]
                have hUx : True := trivial
                refine tt_iret X ⟨hr.1, hr.2.1⟩ (by decide) (by decide) dX10_winding_134 ?_
                refine ⟨rfl, Or.inr (Or.inr ⟨by omega, hmq1, ?_, ?_, ?_, ?_, ?_, ?_⟩)⟩
                · rw [h64, up1_s]
                · intro k hk
                  have h1 : ρ k = μ k := heR k (by intro hk2; apply hk; revert hk2; simp; omega)
                  have h2 : k ≠ 60 := by intro w; apply hk; rw [w]; decide
                  have h3 : k ≠ 71 := by intro w; apply hk; rw [w]; decide
                  simp only [ot_up_uc, ot_ucs]
                  simp only [ot_ucd h2, ot_ucd h3]
                  exact h1
                · simp (disch := decide) only [ot_rd, ot_rs, ot_rf, ot_ucd, ot_ucs, ot_rdf]; exact h65
                · simp (disch := decide) only [ot_rd, ot_rs, ot_rf, ot_ucd, ot_ucs, ot_rdf]; exact h64
                · unfold undoA
                  simp (disch := decide) only [ot_up_uc, ot_ucd, ot_ucs, heR]
                  first
                    | (rw [if_pos (by omega)]; done)
                    | (rw [if_neg (by omega), cpy_shift, show j = 39 by omega])
                · simp (disch := decide) only [ot_up_uc, ot_ucd, ot_ucs, heR]
                  first
                    | (rw [show min (μ 60 14 + 1) 40 = μ 60 14 + 1 by omega]; done)
                    | (rw [show min (μ 60 14 + 1) 40 = 40 by omega, up1_up1]; (try simp only [up1_s]); first | rfl | (congr 1; omega))
              · refine tt_aload_n X rfl dX10_winding_88 ?_
                refine tt_getr X fX10_44 (k_60 _ _) (by decide) ⟨nofun, nofun⟩ rfl dX10_winding_89 ?_
                refine tt_iload_n X rfl dX10_winding_92 ?_
                refine tt_aload_n X rfl dX10_winding_93 ?_
                refine tt_getr X fX10_44 (k_60 _ _) (by decide) ⟨nofun, nofun⟩ rfl dX10_winding_94 ?_
                refine tt_iload_n X rfl dX10_winding_97 ?_
                refine tt_iconst X dX10_winding_98 ?_
                refine tt_iadd X dX10_winding_99 ?_
                refine tt_iaload X (k_71 _ _) (by first | omega | (simp (disch := decide) only [ot_rd, ot_rs, ot_rf, ot_ucd, ot_ucs, heR]; omega)) dX10_winding_100 ?_
                try simp (disch := decide) only [ot_rd, ot_rs, ot_rf, ot_ucd, ot_ucs, heR]
                refine tt_iastore X (k_71 _ _) (by first | omega | (simp (disch := decide) only [ot_rd, ot_rs, ot_rf, ot_ucd, ot_ucs, heR]; omega)) dX10_winding_101 ?_
                refine tt_iinc X dX10_winding_102 rfl (by decide) ?_
                refine tt_goto X 80 dX10_winding_105 (by decide) ?_
                refine tt_loc [(0, _), (1, _), (2, _), (3, _)] ⟨rfl, rfl, rfl, rfl, trivial⟩ ?_
                refine tt_mem (μ' := ot_uc (ot_up ρ 60 14 39) 71 (wr (j + 1) (μ 71) (fun x => μ 71 (x + 1)))) (by exact ot_uc_wr (by omega) (wr_out (by omega))) ?_
                exact ih (j + 1) (by omega) (by omega)
          · refine tt_bipush X (by decide) dX10_winding_50 ?_
            refine tt_iret X ⟨hr.1, hr.2.1⟩ (by decide) (by decide) dX10_winding_52 ?_
            refine ⟨rfl, Or.inr (Or.inl ⟨by omega, by rw [hmq]; omega, rfl, ?_⟩)⟩
            exact eqx_uc (eqx_uc (eqx_rfl _ _) (by decide)) (by decide)
      · refine tt_iconst X dX10_winding_30 ?_
        refine tt_iret X ⟨hr.1, hr.2.1⟩ (by decide) (by decide) dX10_winding_31 ?_
        refine ⟨rfl, Or.inl ⟨?_, rfl, rfl⟩⟩
        first | omega | (intro w; rw [if_pos ⟨w.2.2.1, w.2.2.2⟩] at hz24; omega)

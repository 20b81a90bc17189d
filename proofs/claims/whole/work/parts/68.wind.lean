set_option maxRecDepth 100000 in
set_option maxHeartbeats 1000000 in
theorem c_winding (l : Launch) (g : ot_G) (ln : Nat) (ext : ot_L) (μ : ot_M) (op arg lw lf lt : Int → Int) (t q : Int) (ht : -2147483648 ≤ t ∧ t ≤ 2147483647) (hq : -2147483648 ≤ q ∧ q ≤ 2147483647)(hG : gPin (μ 1 11) (μ 1 12) (μ 2) (μ 3)) (hCh : gChd (μ 1 11) (μ 1 12) (μ 2) (μ 3) (μ 38) (μ 39)) (hW : gWnd (μ 1 12) (μ 8) (μ 7)) (hCl : gClo (μ 1 11) (μ 2) (μ 3) (μ 8) (μ 7) (μ 6) (μ 34) (μ 35)) (hL : gLaw (μ 13) (μ 14) (μ 15) (μ 12 4) op arg lw lf lt) (hs : gShd (μ 6)) (hU : 0 ≤ μ 0 14 ∧ μ 0 14 ≤ 40) : ot_C l g yX9_winding cX9_winding 3 (some .int) 7 0 0 [.inr 0, .inl t, .inl q] (LL ln ext) μ (ot_pi (fun r L2 μ2 => L2 = LL ln ext ∧ ((¬ ((0 ≤ t ∧ t < 3) ∧ (0 ≤ q ∧ q < μ 1 12) ∧ μ 8 t < 120 ∧ (μ 8 t = 0 ∨ μ 7 (120 * t + (μ 8 t - 1)) ≠ q)) ∧ r = -1 ∧ μ2 = μ) ∨ (((0 ≤ t ∧ t < 3) ∧ (0 ≤ q ∧ q < μ 1 12) ∧ μ 8 t < 120 ∧ (μ 8 t = 0 ∨ μ 7 (120 * t + (μ 8 t - 1)) ≠ q)) ∧ mayS op arg lw lf lt (μ 12 4) (μ 2) (μ 3) (μ 8) (μ 7) (μ 6) t q = 0 ∧ r = -2 ∧ eqx [36, 16] μ μ2) ∨ (((0 ≤ t ∧ t < 3) ∧ (0 ≤ q ∧ q < μ 1 12) ∧ μ 8 t < 120 ∧ (μ 8 t = 0 ∨ μ 7 (120 * t + (μ 8 t - 1)) ≠ q)) ∧ mayS op arg lw lf lt (μ 12 4) (μ 2) (μ 3) (μ 8) (μ 7) (μ 6) t q = 1 ∧ r = μ 8 t + 1 ∧ eqx [36, 16, 38, 39, 34, 35, 7, 8, 59, 0] μ μ2 ∧ gChd (μ 1 11) (μ 1 12) (μ 2) (μ 3) (μ2 38) (μ2 39) ∧ gClo (μ 1 11) (μ 2) (μ 3) (up1 (μ 8) t (μ 8 t + 1)) (up1 (μ 7) (120 * t + μ 8 t) q) (μ 6) (μ2 34) (μ2 35) ∧ μ2 7 = up1 (μ 7) (120 * t + μ 8 t) q ∧ μ2 8 = up1 (μ 8) t (μ 8 t + 1) ∧ μ2 59 = undoA (μ 59) (μ 0 14) t ∧ μ2 0 = up1 (μ 0) 14 (min (μ 0 14 + 1) 40))))) := by
  refine ot_enter (by decide) (Nat.le_of_ble_eq_true rfl) ?_
  intro p e s m args below meth c X hr
  have hNn := hG.2.1
  have hWb : (0 ≤ t ∧ t < 3) → 0 ≤ μ 8 t ∧ μ 8 t ≤ 120 := fun h => (hW t h.1 h.2).1
  refine tt_iload_n X rfl dX9_winding_0 ?_
  refine tt_si X rfl mX9_122 (c_isThread l g ln ext _ _ (by first | omega | (simp (disch := decide) only [ot_rd, ot_rs, ot_rf, ot_ucd, ot_ucs]; omega))) rfl rfl (Nat.le_of_ble_eq_true rfl) (by decide) (by decide) (by decide) dX9_winding_1 (fun z1 L1 μ1 hp => ?_)
  obtain ⟨rfl, e1, hz1⟩ := hp
  replace e1 := e1.symm
  subst e1
  refine tt_if_eq X 41 (by first | omega | (simp (disch := decide) only [ot_rd, ot_rs, ot_rf, ot_ucd, ot_ucs]; omega)) dX9_winding_4 (by decide) (fun b4 => ?_) (fun b4 => ?_)
  · refine tt_iconst X dX9_winding_41 ?_
    refine tt_iret X ⟨hr.1, hr.2.1⟩ (by decide) (by decide) dX9_winding_42 ?_
    exact ⟨rfl, Or.inl ⟨by omega, rfl, rfl⟩⟩
  · refine tt_aload_n X rfl dX9_winding_7 ?_
    refine tt_getr X fX9_12 (k_0 _ _) (by decide) ⟨nofun, nofun⟩ rfl dX9_winding_8 ?_
    refine tt_iload_n X rfl dX9_winding_11 ?_
    refine tt_vi X rfl mX9_131 (c_isPin l g ln ext _ _ (by omega) (by omega)) (k_1 _ _) ⟨_, rfl, rfl⟩ rfl rfl (Nat.le_of_ble_eq_true rfl) (by decide) (by decide) (by decide) dX9_winding_12 (fun z12 L12 μ12 hp => ?_)
    obtain ⟨rfl, e12, hz12⟩ := hp
    replace e12 := e12.symm
    subst e12
    refine tt_if_eq X 41 (by first | omega | (simp (disch := decide) only [ot_rd, ot_rs, ot_rf, ot_ucd, ot_ucs]; omega)) dX9_winding_15 (by decide) (fun b15 => ?_) (fun b15 => ?_)
    · refine tt_iconst X dX9_winding_41 ?_
      refine tt_iret X ⟨hr.1, hr.2.1⟩ (by decide) (by decide) dX9_winding_42 ?_
      exact ⟨rfl, Or.inl ⟨by omega, rfl, rfl⟩⟩
    · refine tt_aload_n X rfl dX9_winding_18 ?_
      refine tt_getr X fX9_12 (k_0 _ _) (by decide) ⟨nofun, nofun⟩ rfl dX9_winding_19 ?_
      refine tt_iload_n X rfl dX9_winding_22 ?_
      refine tt_vi X rfl mX9_134 (c_isFull l g ln ext _ _ (by omega) (by (try skip); have := (hW t (by omega) (by omega)).1; omega)) (k_1 _ _) ⟨_, rfl, rfl⟩ rfl rfl (Nat.le_of_ble_eq_true rfl) (by decide) (by decide) (by decide) dX9_winding_23 (fun z23 L23 μ23 hp => ?_)
      obtain ⟨rfl, e23, hz23⟩ := hp
      replace e23 := e23.symm
      subst e23
      refine tt_if_ne X 41 (by first | omega | (simp (disch := decide) only [ot_rd, ot_rs, ot_rf, ot_ucd, ot_ucs]; omega)) dX9_winding_26 (by decide) (fun b26 => ?_) (fun b26 => ?_)
      · refine tt_iconst X dX9_winding_41 ?_
        refine tt_iret X ⟨hr.1, hr.2.1⟩ (by decide) (by decide) dX9_winding_42 ?_
        exact ⟨rfl, Or.inl ⟨by omega, rfl, rfl⟩⟩
      · refine tt_aload_n X rfl dX9_winding_29 ?_
        refine tt_getr X fX9_12 (k_0 _ _) (by decide) ⟨nofun, nofun⟩ rfl dX9_winding_30 ?_
        refine tt_iload_n X rfl dX9_winding_33 ?_
        refine tt_vi X rfl mX9_137 (c_lastPin l g ln ext _ _ (by omega) (by (try skip); have := (hW t (by omega) (by omega)).1; omega)) (k_1 _ _) ⟨_, rfl, rfl⟩ rfl rfl (Nat.le_of_ble_eq_true rfl) (by decide) (by decide) (by decide) dX9_winding_34 (fun z34 L34 μ34 hp => ?_)
        obtain ⟨rfl, e34, hz34⟩ := hp
        replace e34 := e34.symm
        subst e34
        have hfr : z34 = -1 ∧ μ 8 t = 0 ∨ (z34 = μ 7 (120 * t + (μ 8 t - 1)) ∧ 1 ≤ μ 8 t ∧ 0 ≤ z34 ∧ z34 < μ 1 12) := by
          have hWt := hW t (by omega) (by omega)
          by_cases w : 1 ≤ μ 8 t
          · right
            have h2 := hWt.2.1 (μ 8 t - 1) (by omega) (by omega)
            rw [if_pos w, show t * 120 + (μ 8 t - 1) = 120 * t + (μ 8 t - 1) by omega] at hz34
            rw [hz34]; exact ⟨rfl, w, h2⟩
          · left
            rw [if_neg w] at hz34; exact ⟨hz34, by omega⟩
        refine tt_iload_n X rfl dX9_winding_37 ?_
        refine tt_icmp_ne X 43 (by first | omega | (simp (disch := decide) only [ot_rd, ot_rs, ot_rf, ot_ucd, ot_ucs]; omega)) dX9_winding_38 (by decide) (fun b38 => ?_) (fun b38 => ?_)
        · refine tt_aload_n X rfl dX9_winding_43 ?_
          refine tt_getr X fX9_24 (k_0 _ _) (by decide) ⟨nofun, nofun⟩ rfl dX9_winding_44 ?_
          refine tt_iload_n X rfl dX9_winding_47 ?_
          refine tt_iload_n X rfl dX9_winding_48 ?_
          refine tt_vi X rfl mX9_141 (c_mayGo l g ln ext _ op arg lw lf lt _ _ (by (try simp (disch := decide) only [ot_rd, ot_rs, ot_rf, ot_ucd, ot_ucs, ot_rdf]); exact hG) (by (try simp (disch := decide) only [ot_rd, ot_rs, ot_rf, ot_ucd, ot_ucs, ot_rdf]); exact hW) (by (try simp (disch := decide) only [ot_rd, ot_rs, ot_rf, ot_ucd, ot_ucs, ot_rdf]); exact hCl) (by (try simp (disch := decide) only [ot_rd, ot_rs, ot_rf, ot_ucd, ot_ucs, ot_rdf]); exact hs) (by (try simp (disch := decide) only [ot_rd, ot_rs, ot_rf, ot_ucd, ot_ucs, ot_rdf]); exact hL) (by omega) (by (try simp (disch := decide) only [ot_rd, ot_rs, ot_rf, ot_ucd, ot_ucs, ot_rdf]); omega)) (k_33 _ _) ⟨_, rfl, rfl⟩ rfl rfl (Nat.le_of_ble_eq_true rfl) (by decide) (by decide) (by decide) dX9_winding_49 (fun z49 L49 μ49 hp => ?_)
          obtain ⟨rfl, hz49, f49, S49, rfl⟩ := hp
          try simp (disch := decide) only [ot_rd, ot_rs, ot_rf, ot_ucd, ot_ucs, ot_rdf] at hz49
          have hmb := mayS_bool (op := op) (arg := arg) (lw := lw) (lf := lf) (lt := lt) (m := μ 12 4) (px := μ 2) (py := μ 3) (cnt := μ 8) (row := μ 7) (sh := μ 6) (t := t) (q := q)
          refine tt_if_ne X 58 (by first | omega | (simp (disch := decide) only [ot_rd, ot_rs, ot_rf, ot_ucd, ot_ucs]; omega)) dX9_winding_52 (by decide) (fun b52 => ?_) (fun b52 => ?_)
          · have hb0 := hWb (by omega)
            refine tt_aload_n X rfl dX9_winding_58 ?_
            refine tt_getr X fX9_24 (k_0 _ _) (by decide) ⟨nofun, nofun⟩ rfl dX9_winding_59 ?_
            refine tt_iload_n X rfl dX9_winding_62 ?_
            refine tt_iload_n X rfl dX9_winding_63 ?_
            refine tt_vv X rfl mX9_144 (c_goOn l g ln ext _ _ _ (by simp (disch := decide) only [ot_rd, ot_rs, ot_rf, ot_ucd, ot_ucs, ot_rdf]; exact hG) (by simp (disch := decide) only [ot_rd, ot_rs, ot_rf, ot_ucd, ot_ucs, ot_rdf]; exact hCh) (by simp (disch := decide) only [ot_rd, ot_rs, ot_rf, ot_ucd, ot_ucs, ot_rdf]; exact hW) (by simp (disch := decide) only [ot_rd, ot_rs, ot_rf, ot_ucd, ot_ucs, ot_rdf]; exact hCl) (by omega) (by simp (disch := decide) only [ot_rd, ot_rs, ot_rf, ot_ucd, ot_ucs, ot_rdf]; omega) (by simp (disch := decide) only [ot_rd, ot_rs, ot_rf, ot_ucd, ot_ucs, ot_rdf]; omega) (by simp (disch := decide) only [ot_rd, ot_rs, ot_rf, ot_ucd, ot_ucs, ot_rdf]; omega)) (k_33 _ _) ⟨_, rfl, rfl⟩ rfl rfl (Nat.le_of_ble_eq_true rfl) (by decide) (by decide) (by decide) dX9_winding_64 (fun L64 μ64 hp => ?_)
            obtain ⟨rfl, f, z, D, U, hC2, hCl2, rfl⟩ := hp
            simp (disch := decide) only [ot_rd, ot_rs, ot_rf, ot_ucd, ot_ucs, ot_rdf] at hC2 hCl2
            refine tt_aload_n X rfl dX9_winding_67 ?_
            refine tt_iload_n X rfl dX9_winding_68 ?_
            refine tt_vv X rfl mX9_148 (c_keepForUndo l g ln ext _ _ (by simp (disch := decide) only [ot_rd, ot_rs, ot_rf, ot_ucd, ot_ucs, ot_rdf]; omega)) (k_0 _ _) ⟨_, rfl, rfl⟩ rfl rfl (Nat.le_of_ble_eq_true rfl) (by decide) (by decide) (by decide) dX9_winding_69 (fun L69 μ69 hp => ?_)
            obtain ⟨rfl, hp⟩ := hp
            simp (disch := decide) only [ot_rd, ot_rs, ot_rf, ot_ucd, ot_ucs, ot_rdf] at hp
            refine tt_aload_n X rfl dX9_winding_72 ?_
            refine tt_getr X fX9_12 (k_0 _ _) (by decide) ⟨nofun, nofun⟩ rfl dX9_winding_73 ?_
            refine tt_getr X fX9_151 (k_1 _ _) (by decide) ⟨nofun, nofun⟩ rfl dX9_winding_76 ?_
            refine tt_iload_n X rfl dX9_winding_79 ?_
            obtain ⟨he80, e7, e8, e59, e0, e38, e39, e34, e35⟩ : eqx [36, 16, 38, 39, 34, 35, 7, 8, 59, 0] μ μ69 ∧ μ69 7 = up1 (μ 7) (120 * t + μ 8 t) q ∧ μ69 8 = up1 (μ 8) t (μ 8 t + 1) ∧ μ69 59 = undoA (μ 59) (μ 0 14) t ∧ μ69 0 = up1 (μ 0) 14 (min (μ 0 14 + 1) 40) ∧ μ69 38 = f ∧ μ69 39 = z ∧ μ69 34 = D ∧ μ69 35 = U := by
              have hq0 : ∀ (F : Int → Int) (v : Int), ot_up (ot_uc (ot_uc (ot_uc (ot_uc (ot_uc (ot_uc (ot_uc (ot_uc (ot_uc μ 36 f49) 16 S49) 38 f) 39 z) 34 D) 35 U) 7 (up1 (μ 7) (120 * t + μ 8 t) q)) 8 (up1 (μ 8) t (μ 8 t + 1))) 59 F) 0 14 v 0 = up1 (μ 0) 14 v := fun F v => by rw [ot_up_uc, ot_ucs]; simp (disch := decide) only [ot_rd, ot_rs, ot_rf, ot_ucd, ot_ucs, ot_rdf]
              rcases hp with ⟨hu, rfl⟩ | ⟨hu, rfl⟩
              · refine ⟨?_, by simp (disch := decide) only [ot_rd, ot_rs, ot_rf, ot_ucd, ot_ucs, ot_rdf], by simp (disch := decide) only [ot_rd, ot_rs, ot_rf, ot_ucd, ot_ucs, ot_rdf], by simp (disch := decide) only [ot_rd, ot_rs, ot_rf, ot_ucd, ot_ucs, ot_rdf]; unfold undoA; rw [if_pos hu], by rw [hq0, show min (μ 0 14 + 1) 40 = μ 0 14 + 1 by omega], by simp (disch := decide) only [ot_rd, ot_rs, ot_rf, ot_ucd, ot_ucs, ot_rdf], by simp (disch := decide) only [ot_rd, ot_rs, ot_rf, ot_ucd, ot_ucs, ot_rdf], by simp (disch := decide) only [ot_rd, ot_rs, ot_rf, ot_ucd, ot_ucs, ot_rdf], by simp (disch := decide) only [ot_rd, ot_rs, ot_rf, ot_ucd, ot_ucs, ot_rdf]⟩
                repeat first | exact eqx_rfl _ _ | refine eqx_uc ?_ (by decide) | refine eqx_up ?_ (by decide)
              · refine ⟨?_, by simp (disch := decide) only [ot_rd, ot_rs, ot_rf, ot_ucd, ot_ucs, ot_rdf], by simp (disch := decide) only [ot_rd, ot_rs, ot_rf, ot_ucd, ot_ucs, ot_rdf], by simp (disch := decide) only [ot_rd, ot_rs, ot_rf, ot_ucd, ot_ucs, ot_rdf]; unfold undoA; rw [if_neg (by omega)], by rw [hq0, show min (μ 0 14 + 1) 40 = 40 by omega], by simp (disch := decide) only [ot_rd, ot_rs, ot_rf, ot_ucd, ot_ucs, ot_rdf], by simp (disch := decide) only [ot_rd, ot_rs, ot_rf, ot_ucd, ot_ucs, ot_rdf], by simp (disch := decide) only [ot_rd, ot_rs, ot_rf, ot_ucd, ot_ucs, ot_rdf], by simp (disch := decide) only [ot_rd, ot_rs, ot_rf, ot_ucd, ot_ucs, ot_rdf]⟩
                repeat first | exact eqx_rfl _ _ | refine eqx_uc ?_ (by decide) | refine eqx_up ?_ (by decide)
            refine tt_iaload X (k_8 _ _) (by omega) dX9_winding_80 ?_
            try simp (disch := decide) only [ot_rd, ot_rs, ot_rf, ot_ucd, ot_ucs]
            refine tt_iret X ⟨hr.1, hr.2.1⟩ (by decide) (by decide) dX9_winding_81 ?_
            refine ⟨rfl, Or.inr (Or.inr ⟨by omega, by omega, ?_, he80, by rw [e38, e39]; exact hC2, by rw [e34, e35]; exact hCl2, e7, e8, e59, e0⟩)⟩
            rw [e8, up1_s]
          · refine tt_bipush X (by decide) dX9_winding_55 ?_
            refine tt_iret X ⟨hr.1, hr.2.1⟩ (by decide) (by decide) dX9_winding_57 ?_
            refine ⟨rfl, Or.inr (Or.inl ⟨by omega, by omega, rfl, ?_⟩)⟩
            exact eqx_uc (eqx_uc (eqx_rfl _ _) (by decide)) (by decide)
        · refine tt_iconst X dX9_winding_41 ?_
          refine tt_iret X ⟨hr.1, hr.2.1⟩ (by decide) (by decide) dX9_winding_42 ?_
          exact ⟨rfl, Or.inl ⟨by omega, rfl, rfl⟩⟩

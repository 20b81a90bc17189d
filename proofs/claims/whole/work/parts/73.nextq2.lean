set_option maxRecDepth 100000 in
set_option maxHeartbeats 1000000 in
theorem q_next (l : Launch) (g : ot_G) (ln : Nat) (ext : ot_L) (μ : ot_M) (h0 : μ 60 0 = 0) (t pp w : Int) (D0 : Int → Int) (hD0 : D0 = dk (μ 60 1) (μ 61) (μ 62) (μ 64) (μ 65) (μ 63)) (ht : -2147483648 ≤ t ∧ t ≤ 2147483647) (hpp : -2147483648 ≤ pp ∧ pp ≤ 2147483647) (hw : -2147483648 ≤ w ∧ w ≤ 2147483647)(hG : gPin (μ 60 1) (μ 60 2) (μ 61) (μ 62)) (hW : gWnd (μ 60 2) (μ 64) (μ 65)) (hL : gLawQ (μ 60 23) (μ 77) (μ 78) (μ 74) (μ 75) (μ 76)) (hs : gShd (μ 63)) (hw0 : ∀ k, 0 ≤ k → k < 64 → 0 ≤ μ 67 k + 1 ∧ μ 67 k + 1 ≤ 9) (hWn : gWnt (μ 60 1) (μ 66))  : ot_C l g yX10_next cX10_next 5 (some .int) 5 0 0 [.inr 60, .inl t, .inl pp, .inl w] (LL ln ext) μ (ot_pi (fun r L2 μ2 => L2 = LL ln ext ∧ eqx [82, 83, 80, 81, 60] μ μ2 ∧ (∀ j, j ≠ 41 → μ2 60 j = μ 60 j) ∧ r = (if ((0 ≤ t ∧ t < 3) ∧ (0 ≤ pp ∧ pp < 4) ∧ 0 ≤ w ∧ w ≤ 1) then (if w = 0 then (nextS (μ 77) (μ 78) (μ 74) (μ 75) (μ 76) (μ 60 23) (μ 60 1) (μ 60 2) (μ 61) (μ 62) (μ 63) (fun k => μ 67 k + 1) (μ 66) pp t (μ 64) (μ 65)).1 else (nextS (μ 77) (μ 78) (μ 74) (μ 75) (μ 76) (μ 60 23) (μ 60 1) (μ 60 2) (μ 61) (μ 62) (μ 63) (fun k => μ 67 k + 1) (μ 66) pp t (μ 64) (μ 65)).2) else -1000000))) := by
  refine ot_enter (by decide) (Nat.le_of_ble_eq_true rfl) ?_
  intro p e s m args below meth c X hr
  have hS := hG.1
  have hNn := hG.2.1
  have hD1 : ∀ k, 0 ≤ D0 k ∧ D0 k ≤ 25704 := fun k => by rw [hD0]; exact dk_bd hG hW hs k
  have hD2 : ∀ k, ¬ (k % 8 < μ 60 1 ∧ k / 8 < μ 60 1) → D0 k = 0 := fun k hk => by rw [hD0]; exact dk_out hG hW hk
  refine tt_aload_n X rfl dX10_next_0 ?_
  refine tt_iconst X dX10_next_1 ?_
  refine tt_puti X fX10_98 kc_10 (k_60 _ _) (by decide) (fun q hq => by cases hq; rfl) rfl dX10_next_2 ?_
  refine tt_mem (ot_nop h0) ?_
  refine tt_aload_n X rfl dX10_next_5 ?_
  refine tt_iload_n X rfl dX10_next_6 ?_
  refine tt_vi X rfl mX10_125 (q_isThread l g ln ext _ _ (by first | omega | (simp (disch := decide) only [ot_rd, ot_rs, ot_rf, ot_ucd, ot_ucs]; omega))) (k_60 _ _) ⟨_, rfl, rfl⟩ rfl rfl (Nat.le_of_ble_eq_true rfl) (by decide) (by decide) (by decide) dX10_next_7 (fun z7 L7 μ7 hp => ?_)
  obtain ⟨rfl, e7, hz7⟩ := hp
  replace e7 := e7.symm
  subst e7
  refine tt_if_eq X 31 (by first | omega | (simp (disch := decide) only [ot_rd, ot_rs, ot_rf, ot_ucd, ot_ucs]; omega)) dX10_next_10 (by decide) (fun b10 => ?_) (fun b10 => ?_)
  · refine tt_ldcw X (n := (-1000000)) (ot_mem 1373 (by decide +kernel) (by decide +kernel)) dX10_next_31 ?_
    refine tt_iret X ⟨hr.1, hr.2.1⟩ (by decide) (by decide) dX10_next_34 ?_
    exact ⟨rfl, eqx_rfl _ _, fun _ _ => rfl, by rw [if_neg (by omega)]⟩
  · refine tt_aload_n X rfl dX10_next_13 ?_
    refine tt_iload_n X rfl dX10_next_14 ?_
    refine tt_vi X rfl mX10_117 (q_isPicture l g ln ext _ _ (by first | omega | (simp (disch := decide) only [ot_rd, ot_rs, ot_rf, ot_ucd, ot_ucs]; omega))) (k_60 _ _) ⟨_, rfl, rfl⟩ rfl rfl (Nat.le_of_ble_eq_true rfl) (by decide) (by decide) (by decide) dX10_next_15 (fun z15 L15 μ15 hp => ?_)
    obtain ⟨rfl, e15, hz15⟩ := hp
    replace e15 := e15.symm
    subst e15
    refine tt_if_eq X 31 (by first | omega | (simp (disch := decide) only [ot_rd, ot_rs, ot_rf, ot_ucd, ot_ucs]; omega)) dX10_next_18 (by decide) (fun b18 => ?_) (fun b18 => ?_)
    · refine tt_ldcw X (n := (-1000000)) (ot_mem 1373 (by decide +kernel) (by decide +kernel)) dX10_next_31 ?_
      refine tt_iret X ⟨hr.1, hr.2.1⟩ (by decide) (by decide) dX10_next_34 ?_
      exact ⟨rfl, eqx_rfl _ _, fun _ _ => rfl, by rw [if_neg (by omega)]⟩
    · refine tt_aload_n X rfl dX10_next_21 ?_
      refine tt_iload_n X rfl dX10_next_22 ?_
      refine tt_iconst X dX10_next_23 ?_
      refine tt_iconst X dX10_next_24 ?_
      refine tt_vi X rfl mX10_104 (q_isIn l g ln ext _ _ _ _ (by first | omega | (simp (disch := decide) only [ot_rd, ot_rs, ot_rf, ot_ucd, ot_ucs]; omega)) (by first | omega | (simp (disch := decide) only [ot_rd, ot_rs, ot_rf, ot_ucd, ot_ucs]; omega)) (by first | omega | (simp (disch := decide) only [ot_rd, ot_rs, ot_rf, ot_ucd, ot_ucs]; omega))) (k_60 _ _) ⟨_, rfl, rfl⟩ rfl rfl (Nat.le_of_ble_eq_true rfl) (by decide) (by decide) (by decide) dX10_next_25 (fun z25 L25 μ25 hp => ?_)
      obtain ⟨rfl, e25, hz25⟩ := hp
      replace e25 := e25.symm
      subst e25
      refine tt_if_ne X 35 (by first | omega | (simp (disch := decide) only [ot_rd, ot_rs, ot_rf, ot_ucd, ot_ucs]; omega)) dX10_next_28 (by decide) (fun b28 => ?_) (fun b28 => ?_)
      · refine tt_aload_n X rfl dX10_next_35 ?_
        refine tt_vv X rfl mX10_264 (q_findsDark l g ln ext _ hG hW) (k_60 _ _) ⟨_, rfl, rfl⟩ rfl rfl (Nat.le_of_ble_eq_true rfl) (by decide) (by decide) (by decide) dX10_next_36 (fun L36 μ36 hp => ?_)
        obtain ⟨rfl, f, rfl⟩ := hp
        rw [← hD0]
        refine tt_aload_n X rfl dX10_next_39 ?_
        refine tt_iload_n X rfl dX10_next_40 ?_
        refine tt_iload_n X rfl dX10_next_41 ?_
        refine tt_vi X rfl mX10_275 (q_nextOf l g ln ext _ t pp (farS (fun k => μ 67 k + 1) (μ 66) D0 pp) D0 (by simp (disch := decide) only [ot_rd, ot_rs, ot_rf, ot_ucd, ot_ucs, ot_rdf]; exact hD0) (by simp (disch := decide) only [ot_rd, ot_rs, ot_rf, ot_ucd, ot_ucs, ot_rdf]) (by simp (disch := decide) only [ot_rd, ot_rs, ot_rf, ot_ucd, ot_ucs, ot_rdf]; exact hG) (by simp (disch := decide) only [ot_rd, ot_rs, ot_rf, ot_ucd, ot_ucs, ot_rdf]; exact hW) (by simp (disch := decide) only [ot_rd, ot_rs, ot_rf, ot_ucd, ot_ucs, ot_rdf]; exact hL) (by simp (disch := decide) only [ot_rd, ot_rs, ot_rf, ot_ucd, ot_ucs, ot_rdf]; exact hs) (by simp (disch := decide) only [ot_rd, ot_rs, ot_rf, ot_ucd, ot_ucs, ot_rdf]; exact hw0) (by simp (disch := decide) only [ot_rd, ot_rs, ot_rf, ot_ucd, ot_ucs, ot_rdf]; exact hWn) (by omega) (by omega) (fun k k1 k2 => by simp (disch := decide) only [ot_rd, ot_rs, ot_rf, ot_ucd, ot_ucs, ot_rdf]; exact wr_in ⟨k1, k2⟩)) (k_60 _ _) ⟨_, rfl, rfl⟩ rfl rfl (Nat.le_of_ble_eq_true rfl) (by decide) (by decide) (by decide) dX10_next_42 (fun z42 L42 μ42 hp => ?_)
        obtain ⟨rfl, hq42, hz42d, hz42r, b, hz42n, hz42b, hz42f⟩ := hp
        simp (disch := decide) only [ot_rd, ot_rs, ot_rf, ot_ucd, ot_ucs, ot_rdf] at hz42n hz42f hz42r
        have he : ∀ k, k ∉ [82, 83, 80, 81, 60] → μ42 k = μ k := fun k hk => by rw [hq42 k hk]; exact (eqx_uc (eqx_uc (eqx_rfl [82, 83, 80, 81, 60] μ) (by decide)) (by decide)) k hk
        have he60 : ∀ j, j ≠ 41 → μ42 60 j = μ 60 j := fun j hj => by rw [hz42f, up1_n hj]
        refine tt_istore X dX10_next_45 (by decide) ?_
        refine tt_iload_n X rfl dX10_next_47 ?_
        refine tt_if_ne X 54 (by first | omega | (simp (disch := decide) only [ot_rd, ot_rs, ot_rf, ot_ucd, ot_ucs, he, he60]; omega)) dX10_next_48 (by decide) (fun b48 => ?_) (fun b48 => ?_)
        · refine tt_iload X rfl dX10_next_54 ?_
          refine tt_iconst X dX10_next_56 ?_
          refine tt_icmp_ne X 64 (by omega) dX10_next_57 (by decide) (fun b57 => ?_) (fun b57 => ?_)
          · refine tt_aload_n X rfl dX10_next_64 ?_
            refine tt_iload_n X rfl dX10_next_65 ?_
            refine tt_vi X rfl mX10_267 (q_farOf l g ln ext _ pp (by omega) (by simp (disch := decide) only [ot_rd, ot_rs, ot_rf, ot_ucd, ot_ucs, ot_rdf, he, he60]; omega) (by simp (disch := decide) only [ot_rd, ot_rs, ot_rf, ot_ucd, ot_ucs, ot_rdf, he, he60]; exact gFar_of hWn (by omega) (fun k k1 k2 => by rw [hz42d k k1 k2]; have := hD1 k; omega))) (k_60 _ _) ⟨_, rfl, rfl⟩ rfl rfl (Nat.le_of_ble_eq_true rfl) (by decide) (by decide) (by decide) dX10_next_66 (fun z66 L66 μ66 hp => ?_)
            obtain ⟨rfl, e66, hz66⟩ := hp
            replace e66 := e66.symm
            subst e66
            simp (disch := decide) only [ot_rd, ot_rs, ot_rf, ot_ucd, ot_ucs, ot_rdf, he, he60] at hz66
            have hv : z66 = farS (fun k => μ 67 k + 1) (μ 66) D0 pp := by
              rw [hz66, farM_congr (d2 := D0) hz42d]
              exact farM_S (fun k k1 k2 hk => ⟨(hWn pp k (by omega) (by omega) k1 k2).2 hk, hD2 k hk⟩)
            refine tt_aload_n X rfl dX10_next_69 ?_
            refine tt_geti X fX10_271 (k_60 _ _) (by decide) (Or.inl rfl) dX10_next_70 ?_
            try simp (disch := decide) only [ot_rd, ot_rs, ot_rf, ot_ucd, ot_ucs, he, he60]
            refine tt_isub X dX10_next_73 ?_
            refine tt_iret X ⟨hr.1, hr.2.1⟩ (by decide) (by decide) dX10_next_74 ?_
            refine ⟨rfl, he, he60, ?_⟩
            rw [if_pos (by omega), if_neg (by omega), ← hz42n]
            first
              | (have hb0 := (nextS_may hz42n).resolve_right (by omega); exact hb0.2.symm)
              | (rw [hz42f, up1_s, if_neg (by omega), hv]; show _ = b; omega)
          · refine tt_iconst X dX10_next_60 ?_
            refine tt_goto X 74 dX10_next_61 (by decide) ?_
            refine tt_iret X ⟨hr.1, hr.2.1⟩ (by decide) (by decide) dX10_next_74 ?_
            refine ⟨rfl, he, he60, ?_⟩
            rw [if_pos (by omega), if_neg (by omega), ← hz42n]
            first
              | (have hb0 := (nextS_may hz42n).resolve_right (by omega); exact hb0.2.symm)
              | (rw [hz42f, up1_s, if_neg (by omega), hv]; show _ = b; omega)
        · refine tt_iload X rfl dX10_next_51 ?_
          refine tt_iret X ⟨hr.1, hr.2.1⟩ (by decide) (by decide) dX10_next_53 ?_
          refine ⟨rfl, he, he60, ?_⟩
          rw [if_pos (by omega), if_pos (by omega), ← hz42n]
      · refine tt_ldcw X (n := (-1000000)) (ot_mem 1373 (by decide +kernel) (by decide +kernel)) dX10_next_31 ?_
        refine tt_iret X ⟨hr.1, hr.2.1⟩ (by decide) (by decide) dX10_next_34 ?_
        exact ⟨rfl, eqx_rfl _ _, fun _ _ => rfl, by rw [if_neg (by omega)]⟩

set_option maxRecDepth 100000 in
set_option maxHeartbeats 1000000 in
theorem c_keepForUndo (l : Launch) (g : ot_G) (ln : Nat) (ext : ot_L) (μ : ot_M) (t : Int) (hU : 0 ≤ μ 0 14 ∧ μ 0 14 ≤ 40) : ot_C l g yX9_keepForUndo cX9_keepForUndo 2 none 2 0 0 [.inr 0, .inl t] (LL ln ext) μ (ot_pv (fun L2 μ2 => L2 = LL ln ext ∧ ((μ 0 14 < 40 ∧ μ2 = ot_up (ot_uc μ 59 (up1 (μ 59) (μ 0 14) t)) 0 14 (μ 0 14 + 1)) ∨ (μ 0 14 = 40 ∧ μ2 = ot_up (ot_uc μ 59 (up1 (cpy (μ 59) (μ 59) 1 0 39) 39 t)) 0 14 40)))) := by
  refine ot_enter (by decide) (Nat.le_of_ble_eq_true rfl) ?_
  intro p e s m args below meth c X hr
  refine tt_aload_n X rfl dX9_keepForUndo_0 ?_
  refine tt_geti X fX9_89 (k_0 _ _) (by decide) (Or.inl rfl) dX9_keepForUndo_1 ?_
  refine tt_bipush X (by decide) dX9_keepForUndo_4 ?_
  refine tt_icmp_lt X 30 (by omega) dX9_keepForUndo_6 (by decide) (fun b6 => ?_) (fun b6 => ?_)
  · refine tt_aload_n X rfl dX9_keepForUndo_30 ?_
    refine tt_getr X fX9_79 (k_0 _ _) (by decide) ⟨nofun, nofun⟩ rfl dX9_keepForUndo_31 ?_
    refine tt_aload_n X rfl dX9_keepForUndo_34 ?_
    refine tt_geti X fX9_89 (k_0 _ _) (by decide) (Or.inl rfl) dX9_keepForUndo_35 ?_
    refine tt_iload_n X rfl dX9_keepForUndo_38 ?_
    refine tt_iastore X (k_59 _ _) (by omega) dX9_keepForUndo_39 ?_
    refine tt_aload_n X rfl dX9_keepForUndo_40 ?_
    refine tt_dup X dX9_keepForUndo_41 ?_
    refine tt_geti X fX9_89 (k_0 _ _) (by decide) (Or.inl rfl) dX9_keepForUndo_42 ?_
    try simp (disch := decide) only [ot_rd, ot_rs, ot_rf, ot_ucd, ot_ucs]
    refine tt_iconst X dX9_keepForUndo_45 ?_
    refine tt_iadd X dX9_keepForUndo_46 ?_
    refine tt_puti X fX9_89 kc_9 (k_0 _ _) (by decide) (fun q hq => by cases hq; rfl) rfl dX9_keepForUndo_47 ?_
    refine tt_vret X ⟨hr.1, hr.2.1⟩ (by decide) (by decide) dX9_keepForUndo_50 ?_
    refine ⟨rfl, ?_⟩
    first
      | (refine Or.inl ⟨by omega, ?_⟩
         simp only [ot_up_uc, ot_ucs]
         done)
      | (refine Or.inr ⟨by omega, ?_⟩
         funext u v
         by_cases u1 : u = 0
         · subst u1; by_cases v1 : v = 14 <;> simp [ot_up, ot_uc, v1]
         · by_cases u2 : u = 59
           · subst u2; by_cases v1 : v = 39 <;> simp [ot_up, ot_uc, up1, v1]
           · simp [ot_up, ot_uc, u1, u2])
      | (refine Or.inl ⟨by omega, ?_⟩
         funext u v
         by_cases u1 : u = 0
         · subst u1; by_cases v1 : v = 14 <;> simp [ot_up, ot_uc, v1]
         · by_cases u2 : u = 59
           · subst u2; by_cases v1 : v = μ 0 14 <;> simp [ot_up, ot_uc, up1, v1]
           · simp [ot_up, ot_uc, u1, u2])
  · refine tt_aload_n X rfl dX9_keepForUndo_9 ?_
    refine tt_getr X fX9_79 (k_0 _ _) (by decide) ⟨nofun, nofun⟩ rfl dX9_keepForUndo_10 ?_
    refine tt_iconst X dX9_keepForUndo_13 ?_
    refine tt_aload_n X rfl dX9_keepForUndo_14 ?_
    refine tt_getr X fX9_79 (k_0 _ _) (by decide) ⟨nofun, nofun⟩ rfl dX9_keepForUndo_15 ?_
    refine tt_iconst X dX9_keepForUndo_18 ?_
    refine tt_bipush X (by decide) dX9_keepForUndo_19 ?_
    refine tt_copy X hr.2.2.2 (ot_mem 544 (by decide +kernel) (by decide +kernel)) (k_59 _ _) (k_59 _ _) (Or.inl rfl) (by omega) (by decide) (by decide) dX9_keepForUndo_21 ?_
    refine tt_aload_n X rfl dX9_keepForUndo_24 ?_
    refine tt_bipush X (by decide) dX9_keepForUndo_25 ?_
    refine tt_puti X fX9_89 kc_9 (k_0 _ _) (by decide) (fun q hq => by cases hq; rfl) rfl dX9_keepForUndo_27 ?_
    refine tt_aload_n X rfl dX9_keepForUndo_30 ?_
    refine tt_getr X fX9_79 (k_0 _ _) (by decide) ⟨nofun, nofun⟩ rfl dX9_keepForUndo_31 ?_
    refine tt_aload_n X rfl dX9_keepForUndo_34 ?_
    refine tt_geti X fX9_89 (k_0 _ _) (by decide) (Or.inl rfl) dX9_keepForUndo_35 ?_
    try simp (disch := decide) only [ot_rd, ot_rs, ot_rf, ot_ucd, ot_ucs]
    refine tt_iload_n X rfl dX9_keepForUndo_38 ?_
    refine tt_iastore X (k_59 _ _) (by first | omega | (simp (disch := decide) only [ot_rd, ot_rs, ot_rf, ot_ucd, ot_ucs]; omega)) dX9_keepForUndo_39 ?_
    refine tt_aload_n X rfl dX9_keepForUndo_40 ?_
    refine tt_dup X dX9_keepForUndo_41 ?_
    refine tt_geti X fX9_89 (k_0 _ _) (by decide) (Or.inl rfl) dX9_keepForUndo_42 ?_
    try simp (disch := decide) only [ot_rd, ot_rs, ot_rf, ot_ucd, ot_ucs]
    refine tt_iconst X dX9_keepForUndo_45 ?_
    refine tt_iadd X dX9_keepForUndo_46 ?_
    refine tt_puti X fX9_89 kc_9 (k_0 _ _) (by decide) (fun q hq => by cases hq; rfl) rfl dX9_keepForUndo_47 ?_
    refine tt_vret X ⟨hr.1, hr.2.1⟩ (by decide) (by decide) dX9_keepForUndo_50 ?_
    refine ⟨rfl, ?_⟩
    first
      | (refine Or.inl ⟨by omega, ?_⟩
         simp only [ot_up_uc, ot_ucs]
         done)
      | (refine Or.inr ⟨by omega, ?_⟩
         funext u v
         by_cases u1 : u = 0
         · subst u1; by_cases v1 : v = 14 <;> simp [ot_up, ot_uc, v1]
         · by_cases u2 : u = 59
           · subst u2; by_cases v1 : v = 39 <;> simp [ot_up, ot_uc, up1, v1]
           · simp [ot_up, ot_uc, u1, u2])
      | (refine Or.inl ⟨by omega, ?_⟩
         funext u v
         by_cases u1 : u = 0
         · subst u1; by_cases v1 : v = 14 <;> simp [ot_up, ot_uc, v1]
         · by_cases u2 : u = 59
           · subst u2; by_cases v1 : v = μ 0 14 <;> simp [ot_up, ot_uc, up1, v1]
           · simp [ot_up, ot_uc, u1, u2])
set_option maxRecDepth 100000 in
set_option maxHeartbeats 1000000 in
theorem c_lawTake28 (l : Launch) (g : ot_G) (ln : Nat) (ext : ot_L) (μ : ot_M) (hv : ∀ j, 0 ≤ j → j < 16 → μ 15 j = 0 ∨ μ 15 j = 1) : ot_C l g yX3_takeFrom cX3_takeFrom 2 none 2 0 0 [.inr 28, .inr 12] (LL ln ext) μ (ot_pv (fun L2 μ2 => L2 = LL ln ext ∧ μ2 = ot_uc (ot_uc (ot_uc (ot_up μ 28 4 (μ 12 4)) 29 (wr 400 (μ 29) (μ 13))) 30 (wr 16 (μ 30) (μ 14))) 31 (wr 16 (μ 31) (μ 15)))) := by
  refine ot_enter (by decide) (Nat.le_of_ble_eq_true rfl) ?_
  intro p e s m args below meth c X hr
  refine tt_aload_n X rfl dX3_takeFrom_0 ?_
  refine tt_aload_n X rfl dX3_takeFrom_1 ?_
  refine tt_geti X fX3_25 (k_12 _ _) (by decide) (Or.inl rfl) dX3_takeFrom_2 ?_
  refine tt_puti X fX3_25 kc_3 (k_28 _ _) (by decide) (fun q hq => by cases hq; rfl) rfl dX3_takeFrom_5 ?_
  refine tt_aload_n X rfl dX3_takeFrom_8 ?_
  refine tt_getr X fX3_9 (k_12 _ _) (by decide) ⟨nofun, nofun⟩ rfl dX3_takeFrom_9 ?_
  refine tt_iconst X dX3_takeFrom_12 ?_
  refine tt_aload_n X rfl dX3_takeFrom_13 ?_
  refine tt_getr X fX3_9 (k_28 _ _) (by decide) ⟨nofun, nofun⟩ rfl dX3_takeFrom_14 ?_
  refine tt_iconst X dX3_takeFrom_17 ?_
  refine tt_sipush X (by decide) dX3_takeFrom_18 ?_
  refine tt_copy X hr.2.2.2 (ot_mem 741 (by decide +kernel) (by decide +kernel)) (k_13 _ _) (k_29 _ _) (Or.inl rfl) (by omega) (by decide) (by decide) dX3_takeFrom_21 ?_
  refine tt_aload_n X rfl dX3_takeFrom_24 ?_
  refine tt_getr X fX3_15 (k_12 _ _) (by decide) ⟨nofun, nofun⟩ rfl dX3_takeFrom_25 ?_
  refine tt_iconst X dX3_takeFrom_28 ?_
  refine tt_aload_n X rfl dX3_takeFrom_29 ?_
  refine tt_getr X fX3_15 (k_28 _ _) (by decide) ⟨nofun, nofun⟩ rfl dX3_takeFrom_30 ?_
  refine tt_iconst X dX3_takeFrom_33 ?_
  refine tt_bipush X (by decide) dX3_takeFrom_34 ?_
  refine tt_copy X hr.2.2.2 (ot_mem 741 (by decide +kernel) (by decide +kernel)) (k_14 _ _) (k_30 _ _) (Or.inl rfl) (by omega) (by decide) (by decide) dX3_takeFrom_36 ?_
  refine tt_aload_n X rfl dX3_takeFrom_39 ?_
  refine tt_getr X fX3_18 (k_12 _ _) (by decide) ⟨nofun, nofun⟩ rfl dX3_takeFrom_40 ?_
  refine tt_iconst X dX3_takeFrom_43 ?_
  refine tt_aload_n X rfl dX3_takeFrom_44 ?_
  refine tt_getr X fX3_18 (k_28 _ _) (by decide) ⟨nofun, nofun⟩ rfl dX3_takeFrom_45 ?_
  refine tt_iconst X dX3_takeFrom_48 ?_
  refine tt_bipush X (by decide) dX3_takeFrom_49 ?_
  refine tt_copy X hr.2.2.2 (ot_mem 741 (by decide +kernel) (by decide +kernel)) (k_15 _ _) (k_31 _ _) (Or.inr ⟨rfl, fun j j1 j2 => by simp (disch := decide) only [ot_ucd, ot_ucs, ot_rd, ot_rs, ot_rf, ot_rdf]; exact hv j (by omega) (by omega)⟩) (by omega) (by decide) (by decide) dX3_takeFrom_51 ?_
  refine tt_vret X ⟨hr.1, hr.2.1⟩ (by decide) (by decide) dX3_takeFrom_54 ?_
  refine ⟨rfl, ?_⟩
  simp (disch := decide) only [ot_ucd, ot_ucs, ot_rd, ot_rs, ot_rf, ot_rdf]
  simp only [cpy_wr]
set_option maxRecDepth 100000 in
set_option maxHeartbeats 1000000 in
theorem c_lawTake12 (l : Launch) (g : ot_G) (ln : Nat) (ext : ot_L) (μ : ot_M) (hv : ∀ j, 0 ≤ j → j < 16 → μ 31 j = 0 ∨ μ 31 j = 1) : ot_C l g yX3_takeFrom cX3_takeFrom 2 none 2 0 0 [.inr 12, .inr 28] (LL ln ext) μ (ot_pv (fun L2 μ2 => L2 = LL ln ext ∧ μ2 = ot_uc (ot_uc (ot_uc (ot_up μ 12 4 (μ 28 4)) 13 (wr 400 (μ 13) (μ 29))) 14 (wr 16 (μ 14) (μ 30))) 15 (wr 16 (μ 15) (μ 31)))) := by
  refine ot_enter (by decide) (Nat.le_of_ble_eq_true rfl) ?_
  intro p e s m args below meth c X hr
  refine tt_aload_n X rfl dX3_takeFrom_0 ?_
  refine tt_aload_n X rfl dX3_takeFrom_1 ?_
  refine tt_geti X fX3_25 (k_28 _ _) (by decide) (Or.inl rfl) dX3_takeFrom_2 ?_
  refine tt_puti X fX3_25 kc_3 (k_12 _ _) (by decide) (fun q hq => by cases hq; rfl) rfl dX3_takeFrom_5 ?_
  refine tt_aload_n X rfl dX3_takeFrom_8 ?_
  refine tt_getr X fX3_9 (k_28 _ _) (by decide) ⟨nofun, nofun⟩ rfl dX3_takeFrom_9 ?_
  refine tt_iconst X dX3_takeFrom_12 ?_
  refine tt_aload_n X rfl dX3_takeFrom_13 ?_
  refine tt_getr X fX3_9 (k_12 _ _) (by decide) ⟨nofun, nofun⟩ rfl dX3_takeFrom_14 ?_
  refine tt_iconst X dX3_takeFrom_17 ?_
  refine tt_sipush X (by decide) dX3_takeFrom_18 ?_
  refine tt_copy X hr.2.2.2 (ot_mem 741 (by decide +kernel) (by decide +kernel)) (k_29 _ _) (k_13 _ _) (Or.inl rfl) (by omega) (by decide) (by decide) dX3_takeFrom_21 ?_
  refine tt_aload_n X rfl dX3_takeFrom_24 ?_
  refine tt_getr X fX3_15 (k_28 _ _) (by decide) ⟨nofun, nofun⟩ rfl dX3_takeFrom_25 ?_
  refine tt_iconst X dX3_takeFrom_28 ?_
  refine tt_aload_n X rfl dX3_takeFrom_29 ?_
  refine tt_getr X fX3_15 (k_12 _ _) (by decide) ⟨nofun, nofun⟩ rfl dX3_takeFrom_30 ?_
  refine tt_iconst X dX3_takeFrom_33 ?_
  refine tt_bipush X (by decide) dX3_takeFrom_34 ?_
  refine tt_copy X hr.2.2.2 (ot_mem 741 (by decide +kernel) (by decide +kernel)) (k_30 _ _) (k_14 _ _) (Or.inl rfl) (by omega) (by decide) (by decide) dX3_takeFrom_36 ?_
  refine tt_aload_n X rfl dX3_takeFrom_39 ?_
  refine tt_getr X fX3_18 (k_28 _ _) (by decide) ⟨nofun, nofun⟩ rfl dX3_takeFrom_40 ?_
  refine tt_iconst X dX3_takeFrom_43 ?_
  refine tt_aload_n X rfl dX3_takeFrom_44 ?_
  refine tt_getr X fX3_18 (k_12 _ _) (by decide) ⟨nofun, nofun⟩ rfl dX3_takeFrom_45 ?_
  refine tt_iconst X dX3_takeFrom_48 ?_
  refine tt_bipush X (by decide) dX3_takeFrom_49 ?_
  refine tt_copy X hr.2.2.2 (ot_mem 741 (by decide +kernel) (by decide +kernel)) (k_31 _ _) (k_15 _ _) (Or.inr ⟨rfl, fun j j1 j2 => by simp (disch := decide) only [ot_ucd, ot_ucs, ot_rd, ot_rs, ot_rf, ot_rdf]; exact hv j (by omega) (by omega)⟩) (by omega) (by decide) (by decide) dX3_takeFrom_51 ?_
  refine tt_vret X ⟨hr.1, hr.2.1⟩ (by decide) (by decide) dX3_takeFrom_54 ?_
  refine ⟨rfl, ?_⟩
  simp (disch := decide) only [ot_ucd, ot_ucs, ot_rd, ot_rs, ot_rf, ot_rdf]
  simp only [cpy_wr]
set_option maxRecDepth 100000 in
set_option maxHeartbeats 1000000 in
theorem c_lawTakeR (l : Launch) (g : ot_G) (ln : Nat) (ext : ot_L) (μ : ot_M) (hv : ∀ j, 0 ≤ j → j < 16 → μ 53 j = 0 ∨ μ 53 j = 1) : ot_C l g yX3_takeFrom cX3_takeFrom 2 none 2 0 0 [.inr 12, .inr 50] (LL ln ext) μ (ot_pv (fun L2 μ2 => L2 = LL ln ext ∧ μ2 = ot_uc (ot_uc (ot_uc (ot_up μ 12 4 (μ 50 4)) 13 (wr 400 (μ 13) (μ 51))) 14 (wr 16 (μ 14) (μ 52))) 15 (wr 16 (μ 15) (μ 53)))) := by
  refine ot_enter (by decide) (Nat.le_of_ble_eq_true rfl) ?_
  intro p e s m args below meth c X hr
  refine tt_aload_n X rfl dX3_takeFrom_0 ?_
  refine tt_aload_n X rfl dX3_takeFrom_1 ?_
  refine tt_geti X fX3_25 (k_50 _ _) (by decide) (Or.inl rfl) dX3_takeFrom_2 ?_
  refine tt_puti X fX3_25 kc_3 (k_12 _ _) (by decide) (fun q hq => by cases hq; rfl) rfl dX3_takeFrom_5 ?_
  refine tt_aload_n X rfl dX3_takeFrom_8 ?_
  refine tt_getr X fX3_9 (k_50 _ _) (by decide) ⟨nofun, nofun⟩ rfl dX3_takeFrom_9 ?_
  refine tt_iconst X dX3_takeFrom_12 ?_
  refine tt_aload_n X rfl dX3_takeFrom_13 ?_
  refine tt_getr X fX3_9 (k_12 _ _) (by decide) ⟨nofun, nofun⟩ rfl dX3_takeFrom_14 ?_
  refine tt_iconst X dX3_takeFrom_17 ?_
  refine tt_sipush X (by decide) dX3_takeFrom_18 ?_
  refine tt_copy X hr.2.2.2 (ot_mem 741 (by decide +kernel) (by decide +kernel)) (k_51 _ _) (k_13 _ _) (Or.inl rfl) (by omega) (by decide) (by decide) dX3_takeFrom_21 ?_
  refine tt_aload_n X rfl dX3_takeFrom_24 ?_
  refine tt_getr X fX3_15 (k_50 _ _) (by decide) ⟨nofun, nofun⟩ rfl dX3_takeFrom_25 ?_
  refine tt_iconst X dX3_takeFrom_28 ?_
  refine tt_aload_n X rfl dX3_takeFrom_29 ?_
  refine tt_getr X fX3_15 (k_12 _ _) (by decide) ⟨nofun, nofun⟩ rfl dX3_takeFrom_30 ?_
  refine tt_iconst X dX3_takeFrom_33 ?_
  refine tt_bipush X (by decide) dX3_takeFrom_34 ?_
  refine tt_copy X hr.2.2.2 (ot_mem 741 (by decide +kernel) (by decide +kernel)) (k_52 _ _) (k_14 _ _) (Or.inl rfl) (by omega) (by decide) (by decide) dX3_takeFrom_36 ?_
  refine tt_aload_n X rfl dX3_takeFrom_39 ?_
  refine tt_getr X fX3_18 (k_50 _ _) (by decide) ⟨nofun, nofun⟩ rfl dX3_takeFrom_40 ?_
  refine tt_iconst X dX3_takeFrom_43 ?_
  refine tt_aload_n X rfl dX3_takeFrom_44 ?_
  refine tt_getr X fX3_18 (k_12 _ _) (by decide) ⟨nofun, nofun⟩ rfl dX3_takeFrom_45 ?_
  refine tt_iconst X dX3_takeFrom_48 ?_
  refine tt_bipush X (by decide) dX3_takeFrom_49 ?_
  refine tt_copy X hr.2.2.2 (ot_mem 741 (by decide +kernel) (by decide +kernel)) (k_53 _ _) (k_15 _ _) (Or.inr ⟨rfl, fun j j1 j2 => by simp (disch := decide) only [ot_ucd, ot_ucs, ot_rd, ot_rs, ot_rf, ot_rdf]; exact hv j (by omega) (by omega)⟩) (by omega) (by decide) (by decide) dX3_takeFrom_51 ?_
  refine tt_vret X ⟨hr.1, hr.2.1⟩ (by decide) (by decide) dX3_takeFrom_54 ?_
  refine ⟨rfl, ?_⟩
  simp (disch := decide) only [ot_ucd, ot_ucs, ot_rd, ot_rs, ot_rf, ot_rdf]
  simp only [cpy_wr]

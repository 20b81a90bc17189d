theorem gClo_push {S t q : Int} {px py cnt row sh D0 U0 D U : Int → Int} (h : gClo S px py cnt row sh D0 U0) (ht : 0 ≤ t ∧ t < 3) (hb : ∀ u, 0 ≤ u → u < 3 → 0 ≤ cnt u ∧ cnt u ≤ 120) (hc : cnt t < 120)
    (hD : ∀ k, 0 ≤ k → k < 64 → D k = D0 k + (if cnt t = 0 then 0 else sh t * smp S px py (row (120 * t + (cnt t - 1))) q k)) (hU : ∀ c, 0 ≤ c → c < 276 → U c = U0 c + (if cnt t = 0 then 0 else if chN (row (120 * t + (cnt t - 1))) q = c then 1 else 0)) : gClo S px py (up1 cnt t (cnt t + 1)) (up1 row (120 * t + cnt t) q) sh D U := by
  have hct := hb t ht.1 ht.2
  refine ⟨fun k k1 k2 => ?_, fun c c1 c2 => ?_⟩
  · rw [dk_w, wsum_push ht hb ⟨hct.1, hc⟩, hD k k1 k2, h.1 k k1 k2, dk_w]
  · rw [usC_w, wsum_push ht hb ⟨hct.1, hc⟩, hU c c1 c2, h.2 c c1 c2, usC_w]
theorem gClo_pop {S t : Int} {px py cnt row sh D0 U0 D U : Int → Int} (h : gClo S px py cnt row sh D0 U0) (ht : 0 ≤ t ∧ t < 3) (hc : 0 ≤ cnt t)
    (hD : ∀ k, 0 ≤ k → k < 64 → D k = D0 k + (if cnt t ≤ 1 then 0 else - (sh t * smp S px py (row (120 * t + (cnt t - 2))) (row (120 * t + (cnt t - 1))) k))) (hU : ∀ c, 0 ≤ c → c < 276 → U c = U0 c + (if cnt t ≤ 1 then 0 else - (if chN (row (120 * t + (cnt t - 2))) (row (120 * t + (cnt t - 1))) = c then 1 else 0))) : gClo S px py (up1 cnt t (max (cnt t - 1) 0)) row sh D U := by
  refine ⟨fun k k1 k2 => ?_, fun c c1 c2 => ?_⟩
  · rw [dk_w, wsum_pop ht hc, hD k k1 k2, h.1 k k1 k2, dk_w]
  · rw [usC_w, wsum_pop ht hc, hU c c1 c2, h.2 c c1 c2, usC_w]
theorem ot_cl1 {μ : ot_M} : μ = ot_uc (ot_uc (ot_uc (ot_uc μ 38 (μ 38)) 39 (μ 39)) 34 (μ 34)) 35 (μ 35) := by
  rw [← ot_memCS]
  funext k j
  by_cases h1 : k = 35
  · simp [ot_uc, h1]
  · by_cases h2 : k = 34 <;> simp [ot_uc, h1, h2]
set_option maxRecDepth 100000 in
set_option maxHeartbeats 1000000 in
theorem c_goOn (l : Launch) (g : ot_G) (ln : Nat) (ext : ot_L) (μ : ot_M) (t q : Int) (hG : gPin (μ 1 11) (μ 1 12) (μ 2) (μ 3)) (hCh : gChd (μ 1 11) (μ 1 12) (μ 2) (μ 3) (μ 38) (μ 39)) (hW : gWnd (μ 1 12) (μ 8) (μ 7)) (hCl : gClo (μ 1 11) (μ 2) (μ 3) (μ 8) (μ 7) (μ 6) (μ 34) (μ 35)) (ht : 0 ≤ t ∧ t < 3) (hq : 0 ≤ q ∧ q < μ 1 12) (hf : μ 8 t < 120) (hne : 1 ≤ μ 8 t → μ 7 (120 * t + (μ 8 t - 1)) ≠ q) : ot_C l g yX1_goOn cX1_goOn 4 none 5 0 0 [.inr 33, .inl t, .inl q] (LL ln ext) μ (ot_pv (fun L2 μ2 => L2 = LL ln ext ∧ ∃ f z D U, gChd (μ 1 11) (μ 1 12) (μ 2) (μ 3) f z ∧ gClo (μ 1 11) (μ 2) (μ 3) (up1 (μ 8) t (μ 8 t + 1)) (up1 (μ 7) (120 * t + μ 8 t) q) (μ 6) D U ∧ μ2 = ot_uc (ot_uc (ot_uc (ot_uc (ot_uc (ot_uc μ 38 f) 39 z) 34 D) 35 U) 7 (up1 (μ 7) (120 * t + μ 8 t) q)) 8 (up1 (μ 8) t (μ 8 t + 1)))) := by
  refine ot_enter (by decide) (Nat.le_of_ble_eq_true rfl) ?_
  intro p e s m args below meth c X hr
  have hNn := hG.2.1
  have hWt := hW t (by omega) (by omega)
  have hb : ∀ u, 0 ≤ u → u < 3 → 0 ≤ μ 8 u ∧ μ 8 u ≤ 120 := fun u u1 u2 => (hW u u1 u2).1
  have hlast : 1 ≤ μ 8 t → 0 ≤ μ 7 (120 * t + (μ 8 t - 1)) ∧ μ 7 (120 * t + (μ 8 t - 1)) < μ 1 12 := fun w => hWt.2.1 (μ 8 t - 1) (by omega) (by omega)
  have e1 : t * 120 + (μ 8 t - 1) = 120 * t + (μ 8 t - 1) := by omega
  refine tt_aload_n X rfl dX1_goOn_0 ?_
  refine tt_getr X fX1_25 (k_33 _ _) (by decide) ⟨nofun, nofun⟩ rfl dX1_goOn_1 ?_
  refine tt_iload_n X rfl dX1_goOn_4 ?_
  refine tt_vi X rfl mX1_77 (c_isFull l g ln ext _ _ (by first | omega | (simp (disch := decide) only [ot_rd, ot_rs, ot_rf, ot_ucd, ot_ucs]; omega)) (by first | omega | (simp (disch := decide) only [ot_rd, ot_rs, ot_rf, ot_ucd, ot_ucs]; omega))) (k_1 _ _) ⟨_, rfl, rfl⟩ rfl rfl (Nat.le_of_ble_eq_true rfl) (by decide) (by decide) (by decide) dX1_goOn_5 (fun z5 L5 μ5 hp => ?_)
  obtain ⟨rfl, e5, hz5⟩ := hp
  replace e5 := e5.symm
  subst e5
  try simp (disch := decide) only [ot_rd, ot_rs, ot_rf, ot_ucd, ot_ucs] at hz5
  refine tt_if_eq X 12 (by first | omega | (simp (disch := decide) only [ot_rd, ot_rs, ot_rf, ot_ucd, ot_ucs]; omega)) dX1_goOn_8 (by decide) (fun b8 => ?_) (fun b8 => ?_)
  · refine tt_aload_n X rfl dX1_goOn_12 ?_
    refine tt_getr X fX1_25 (k_33 _ _) (by decide) ⟨nofun, nofun⟩ rfl dX1_goOn_13 ?_
    refine tt_iload_n X rfl dX1_goOn_16 ?_
    refine tt_vi X rfl mX1_81 (c_lastPin l g ln ext _ _ (by omega) (by omega)) (k_1 _ _) ⟨_, rfl, rfl⟩ rfl rfl (Nat.le_of_ble_eq_true rfl) (by decide) (by decide) (by decide) dX1_goOn_17 (fun z17 L17 μ17 hp => ?_)
    obtain ⟨rfl, e17, hz17⟩ := hp
    replace e17 := e17.symm
    subst e17
    rw [e1] at hz17
    try simp (disch := decide) only [ot_rd, ot_rs, ot_rf, ot_ucd, ot_ucs] at hz17
    refine tt_istore_n X dX1_goOn_20 (by decide) ?_
    refine tt_iload_n X rfl dX1_goOn_21 ?_
    refine tt_iconst X dX1_goOn_22 ?_
    refine tt_icmp_eq X 34 (by first | omega | (simp (disch := decide) only [ot_rd, ot_rs, ot_rf, ot_ucd, ot_ucs]; omega)) dX1_goOn_23 (by decide) (fun b23 => ?_) (fun b23 => ?_)
    · skip
      refine tt_aload_n X rfl dX1_goOn_34 ?_
      refine tt_getr X fX1_25 (k_33 _ _) (by decide) ⟨nofun, nofun⟩ rfl dX1_goOn_35 ?_
      refine tt_getr X fX1_53 (k_1 _ _) (by decide) ⟨nofun, nofun⟩ rfl dX1_goOn_38 ?_
      refine tt_iload_n X rfl dX1_goOn_41 ?_
      refine tt_bipush X (by decide) dX1_goOn_42 ?_
      refine tt_imul X dX1_goOn_44 ?_
      refine tt_aload_n X rfl dX1_goOn_45 ?_
      refine tt_getr X fX1_25 (k_33 _ _) (by decide) ⟨nofun, nofun⟩ rfl dX1_goOn_46 ?_
      refine tt_getr X fX1_48 (k_1 _ _) (by decide) ⟨nofun, nofun⟩ rfl dX1_goOn_49 ?_
      refine tt_iload_n X rfl dX1_goOn_52 ?_
      refine tt_iaload X (k_8 _ _) (by first | omega | (simp (disch := decide) only [ot_rd, ot_rs, ot_rf, ot_ucd, ot_ucs]; omega)) dX1_goOn_53 ?_
      try simp (disch := decide) only [ot_rd, ot_rs, ot_rf, ot_ucd, ot_ucs]
      refine tt_iadd X dX1_goOn_54 ?_
      refine tt_iload_n X rfl dX1_goOn_55 ?_
      refine tt_iastore X (k_7 _ _) (by first | omega | (simp (disch := decide) only [ot_rd, ot_rs, ot_rf, ot_ucd, ot_ucs]; omega)) dX1_goOn_56 ?_
      skip
      refine tt_aload_n X rfl dX1_goOn_57 ?_
      refine tt_getr X fX1_25 (k_33 _ _) (by decide) ⟨nofun, nofun⟩ rfl dX1_goOn_58 ?_
      refine tt_getr X fX1_48 (k_1 _ _) (by decide) ⟨nofun, nofun⟩ rfl dX1_goOn_61 ?_
      refine tt_iload_n X rfl dX1_goOn_64 ?_
      refine tt_dup2 X dX1_goOn_65 ?_
      refine tt_iaload X (k_8 _ _) (by first | omega | (simp (disch := decide) only [ot_rd, ot_rs, ot_rf, ot_ucd, ot_ucs]; omega)) dX1_goOn_66 ?_
      try simp (disch := decide) only [ot_rd, ot_rs, ot_rf, ot_ucd, ot_ucs]
      refine tt_iconst X dX1_goOn_67 ?_
      refine tt_iadd X dX1_goOn_68 ?_
      refine tt_iastore X (k_8 _ _) (by first | omega | (simp (disch := decide) only [ot_rd, ot_rs, ot_rf, ot_ucd, ot_ucs]; omega)) dX1_goOn_69 ?_
      refine tt_vret X ⟨hr.1, hr.2.1⟩ (by decide) (by decide) dX1_goOn_70 ?_
      refine ⟨rfl, ?_⟩
      rw [show t * 120 + μ 8 t = 120 * t + μ 8 t by omega]
      first
        | (have h0 : μ 8 t = 0 := by omega
           refine ⟨μ 38, μ 39, μ 34, μ 35, hCh, gClo_push hCl (by omega) hb hf (fun k _ _ => by rw [if_pos h0, Int.add_zero]) (fun c _ _ => by rw [if_pos h0, Int.add_zero]), ?_⟩
           rw [← ot_cl1, ot_up_uc, ot_up_uc]
           simp (disch := decide) only [ot_ucd, ot_ucs])
        | (have h0 : ¬ μ 8 t = 0 := by omega
           rw [if_pos (by omega)] at hz17
           subst hz17
           have hch := chN_in (a := μ 7 (120 * t + (μ 8 t - 1))) (b := q) (by omega) (by omega) (by omega)
           refine ⟨f, z, wr 64 (μ 34) (fun k => μ 34 k + μ 6 t * 1 * smp (μ 1 11) (μ 2) (μ 3) (μ 7 (120 * t + (μ 8 t - 1))) q k), up1 (μ 35) (chN (μ 7 (120 * t + (μ 8 t - 1))) q) (μ 35 (chN (μ 7 (120 * t + (μ 8 t - 1))) q) + 1), hc, gClo_push hCl (by omega) hb hf (fun k k1 k2 => ?_) (fun c c1 c2 => ?_), ?_⟩
           rotate_left 2
           · rw [ot_up_uc, ot_up_uc]
             simp (disch := decide) only [ot_ucd, ot_ucs]
           · rw [if_neg h0, wr_in ⟨k1, k2⟩, Int.mul_one]
           · rw [if_neg h0]
             by_cases hcc : chN (μ 7 (120 * t + (μ 8 t - 1))) q = c
             · subst hcc; rw [up1_s, if_pos rfl]
             · rw [up1_n (fun w => hcc w.symm), if_neg hcc, Int.add_zero])
    · refine tt_aload_n X rfl dX1_goOn_26 ?_
      refine tt_iload_n X rfl dX1_goOn_27 ?_
      refine tt_iload_n X rfl dX1_goOn_28 ?_
      refine tt_iload_n X rfl dX1_goOn_29 ?_
      refine tt_iconst X dX1_goOn_30 ?_
      refine tt_vv X rfl mX1_56 (c_lay l g ln ext _ _ _ _ _ hG hCh (by omega) (by omega) (by omega) (by omega)) (k_33 _ _) ⟨_, rfl, rfl⟩ rfl rfl (Nat.le_of_ble_eq_true rfl) (by decide) (by decide) (by decide) dX1_goOn_31 (fun L31 μ31 hp => ?_)
      obtain ⟨rfl, f, z, hc, rfl⟩ := hp
      skip
      refine tt_aload_n X rfl dX1_goOn_34 ?_
      refine tt_getr X fX1_25 (k_33 _ _) (by decide) ⟨nofun, nofun⟩ rfl dX1_goOn_35 ?_
      refine tt_getr X fX1_53 (k_1 _ _) (by decide) ⟨nofun, nofun⟩ rfl dX1_goOn_38 ?_
      refine tt_iload_n X rfl dX1_goOn_41 ?_
      refine tt_bipush X (by decide) dX1_goOn_42 ?_
      refine tt_imul X dX1_goOn_44 ?_
      refine tt_aload_n X rfl dX1_goOn_45 ?_
      refine tt_getr X fX1_25 (k_33 _ _) (by decide) ⟨nofun, nofun⟩ rfl dX1_goOn_46 ?_
      refine tt_getr X fX1_48 (k_1 _ _) (by decide) ⟨nofun, nofun⟩ rfl dX1_goOn_49 ?_
      refine tt_iload_n X rfl dX1_goOn_52 ?_
      refine tt_iaload X (k_8 _ _) (by first | omega | (simp (disch := decide) only [ot_rd, ot_rs, ot_rf, ot_ucd, ot_ucs]; omega)) dX1_goOn_53 ?_
      try simp (disch := decide) only [ot_rd, ot_rs, ot_rf, ot_ucd, ot_ucs]
      refine tt_iadd X dX1_goOn_54 ?_
      refine tt_iload_n X rfl dX1_goOn_55 ?_
      refine tt_iastore X (k_7 _ _) (by first | omega | (simp (disch := decide) only [ot_rd, ot_rs, ot_rf, ot_ucd, ot_ucs]; omega)) dX1_goOn_56 ?_
      skip
      refine tt_aload_n X rfl dX1_goOn_57 ?_
      refine tt_getr X fX1_25 (k_33 _ _) (by decide) ⟨nofun, nofun⟩ rfl dX1_goOn_58 ?_
      refine tt_getr X fX1_48 (k_1 _ _) (by decide) ⟨nofun, nofun⟩ rfl dX1_goOn_61 ?_
      refine tt_iload_n X rfl dX1_goOn_64 ?_
      refine tt_dup2 X dX1_goOn_65 ?_
      refine tt_iaload X (k_8 _ _) (by first | omega | (simp (disch := decide) only [ot_rd, ot_rs, ot_rf, ot_ucd, ot_ucs]; omega)) dX1_goOn_66 ?_
      try simp (disch := decide) only [ot_rd, ot_rs, ot_rf, ot_ucd, ot_ucs]
      refine tt_iconst X dX1_goOn_67 ?_
      refine tt_iadd X dX1_goOn_68 ?_
      refine tt_iastore X (k_8 _ _) (by first | omega | (simp (disch := decide) only [ot_rd, ot_rs, ot_rf, ot_ucd, ot_ucs]; omega)) dX1_goOn_69 ?_
      refine tt_vret X ⟨hr.1, hr.2.1⟩ (by decide) (by decide) dX1_goOn_70 ?_
      refine ⟨rfl, ?_⟩
      rw [show t * 120 + μ 8 t = 120 * t + μ 8 t by omega]
      first
        | (have h0 : μ 8 t = 0 := by omega
           refine ⟨μ 38, μ 39, μ 34, μ 35, hCh, gClo_push hCl (by omega) hb hf (fun k _ _ => by rw [if_pos h0, Int.add_zero]) (fun c _ _ => by rw [if_pos h0, Int.add_zero]), ?_⟩
           rw [← ot_cl1, ot_up_uc, ot_up_uc]
           simp (disch := decide) only [ot_ucd, ot_ucs])
        | (have h0 : ¬ μ 8 t = 0 := by omega
           rw [if_pos (by omega)] at hz17
           subst hz17
           have hch := chN_in (a := μ 7 (120 * t + (μ 8 t - 1))) (b := q) (by omega) (by omega) (by omega)
           refine ⟨f, z, wr 64 (μ 34) (fun k => μ 34 k + μ 6 t * 1 * smp (μ 1 11) (μ 2) (μ 3) (μ 7 (120 * t + (μ 8 t - 1))) q k), up1 (μ 35) (chN (μ 7 (120 * t + (μ 8 t - 1))) q) (μ 35 (chN (μ 7 (120 * t + (μ 8 t - 1))) q) + 1), hc, gClo_push hCl (by omega) hb hf (fun k k1 k2 => ?_) (fun c c1 c2 => ?_), ?_⟩
           rotate_left 2
           · rw [ot_up_uc, ot_up_uc]
             simp (disch := decide) only [ot_ucd, ot_ucs]
           · rw [if_neg h0, wr_in ⟨k1, k2⟩, Int.mul_one]
           · rw [if_neg h0]
             by_cases hcc : chN (μ 7 (120 * t + (μ 8 t - 1))) q = c
             · subst hcc; rw [up1_s, if_pos rfl]
             · rw [up1_n (fun w => hcc w.symm), if_neg hcc, Int.add_zero])
  · exact absurd b8 (by omega)
set_option maxRecDepth 100000 in
set_option maxHeartbeats 1000000 in
theorem c_goBack (l : Launch) (g : ot_G) (ln : Nat) (ext : ot_L) (μ : ot_M) (t : Int) (hG : gPin (μ 1 11) (μ 1 12) (μ 2) (μ 3)) (hCh : gChd (μ 1 11) (μ 1 12) (μ 2) (μ 3) (μ 38) (μ 39)) (hW : gWnd (μ 1 12) (μ 8) (μ 7)) (hCl : gClo (μ 1 11) (μ 2) (μ 3) (μ 8) (μ 7) (μ 6) (μ 34) (μ 35)) (ht : 0 ≤ t ∧ t < 3) : ot_C l g yX1_goBack cX1_goBack 3 none 5 0 0 [.inr 33, .inl t] (LL ln ext) μ (ot_pv (fun L2 μ2 => L2 = LL ln ext ∧ ∃ f z D U, gChd (μ 1 11) (μ 1 12) (μ 2) (μ 3) f z ∧ gClo (μ 1 11) (μ 2) (μ 3) (up1 (μ 8) t (max (μ 8 t - 1) 0)) (μ 7) (μ 6) D U ∧ μ2 = ot_uc (ot_uc (ot_uc (ot_uc (ot_uc μ 38 f) 39 z) 34 D) 35 U) 8 (up1 (μ 8) t (max (μ 8 t - 1) 0)))) := by
  refine ot_enter (by decide) (Nat.le_of_ble_eq_true rfl) ?_
  intro p e s m args below meth c X hr
  have hNn := hG.2.1
  have hWt := hW t (by omega) (by omega)
  have hl1 : 2 ≤ μ 8 t → (0 ≤ μ 7 (120 * t + (μ 8 t - 1)) ∧ μ 7 (120 * t + (μ 8 t - 1)) < μ 1 12) := fun w => hWt.2.1 (μ 8 t - 1) (by omega) (by omega)
  have hl2 : 2 ≤ μ 8 t → (0 ≤ μ 7 (120 * t + (μ 8 t - 2)) ∧ μ 7 (120 * t + (μ 8 t - 2)) < μ 1 12) := fun w => hWt.2.1 (μ 8 t - 2) (by omega) (by omega)
  have hl3 : 2 ≤ μ 8 t → μ 7 (120 * t + (μ 8 t - 2)) ≠ μ 7 (120 * t + (μ 8 t - 1)) := fun w => by have := hWt.2.2 (μ 8 t - 2) (by omega) (by omega); rwa [show 120 * t + (μ 8 t - 2) + 1 = 120 * t + (μ 8 t - 1) by omega] at this
  have e1 : t * 120 + (μ 8 t - 1) = 120 * t + (μ 8 t - 1) := by omega
  have e2 : t * 120 + (μ 8 t - 2) = 120 * t + (μ 8 t - 2) := by omega
  refine tt_aload_n X rfl dX1_goBack_0 ?_
  refine tt_getr X fX1_25 (k_33 _ _) (by decide) ⟨nofun, nofun⟩ rfl dX1_goBack_1 ?_
  refine tt_iload_n X rfl dX1_goBack_4 ?_
  refine tt_iconst X dX1_goBack_5 ?_
  refine tt_vi X rfl mX1_84 (c_pinFromEnd l g ln ext _ _ _ (by omega) (by omega) (by omega)) (k_1 _ _) ⟨_, rfl, rfl⟩ rfl rfl (Nat.le_of_ble_eq_true rfl) (by decide) (by decide) (by decide) dX1_goBack_6 (fun z6 L6 μ6 hp => ?_)
  obtain ⟨rfl, e6, hz6⟩ := hp
  replace e6 := e6.symm
  subst e6
  rw [e2] at hz6
  try simp (disch := decide) only [ot_rd, ot_rs, ot_rf, ot_ucd, ot_ucs] at hz6
  refine tt_istore_n X dX1_goBack_9 (by decide) ?_
  refine tt_iload_n X rfl dX1_goBack_10 ?_
  refine tt_iconst X dX1_goBack_11 ?_
  refine tt_icmp_eq X 30 (by first | omega | (simp (disch := decide) only [ot_rd, ot_rs, ot_rf, ot_ucd, ot_ucs]; omega)) dX1_goBack_12 (by decide) (fun b12 => ?_) (fun b12 => ?_)
  · refine tt_aload_n X rfl dX1_goBack_30 ?_
    refine tt_getr X fX1_25 (k_33 _ _) (by decide) ⟨nofun, nofun⟩ rfl dX1_goBack_31 ?_
    refine tt_getr X fX1_48 (k_1 _ _) (by decide) ⟨nofun, nofun⟩ rfl dX1_goBack_34 ?_
    refine tt_iload_n X rfl dX1_goBack_37 ?_
    refine tt_aload_n X rfl dX1_goBack_38 ?_
    refine tt_getr X fX1_25 (k_33 _ _) (by decide) ⟨nofun, nofun⟩ rfl dX1_goBack_39 ?_
    refine tt_getr X fX1_48 (k_1 _ _) (by decide) ⟨nofun, nofun⟩ rfl dX1_goBack_42 ?_
    refine tt_iload_n X rfl dX1_goBack_45 ?_
    refine tt_iaload X (k_8 _ _) (by first | omega | (simp (disch := decide) only [ot_rd, ot_rs, ot_rf, ot_ucd, ot_ucs]; omega)) dX1_goBack_46 ?_
    try simp (disch := decide) only [ot_rd, ot_rs, ot_rf, ot_ucd, ot_ucs]
    refine tt_iconst X dX1_goBack_47 ?_
    refine tt_isub X dX1_goBack_48 ?_
    refine tt_iconst X dX1_goBack_49 ?_
    refine tt_max X rfl mX1_87 (by omega) (Nat.le_of_ble_eq_true rfl) (by decide) (by decide) dX1_goBack_50 ?_
    refine tt_iastore X (k_8 _ _) (by first | omega | (simp (disch := decide) only [ot_rd, ot_rs, ot_rf, ot_ucd, ot_ucs]; omega)) dX1_goBack_53 ?_
    refine tt_vret X ⟨hr.1, hr.2.1⟩ (by decide) (by decide) dX1_goBack_54 ?_
    refine ⟨rfl, ?_⟩
    first
      | (have h0 : μ 8 t ≤ 1 := by omega
         refine ⟨μ 38, μ 39, μ 34, μ 35, hCh, gClo_pop hCl (by omega) (by omega) (fun k _ _ => by rw [if_pos h0, Int.add_zero]) (fun c _ _ => by rw [if_pos h0, Int.add_zero]), ?_⟩
         rw [← ot_cl1, ot_up_uc])
      | (have h0 : ¬ μ 8 t ≤ 1 := by omega
         rw [if_pos (by omega)] at hz6 hz23
         subst hz6 hz23
         have hch := chN_in (a := μ 7 (120 * t + (μ 8 t - 2))) (b := μ 7 (120 * t + (μ 8 t - 1))) (by omega) (by omega) (by omega)
         refine ⟨f, z, wr 64 (μ 34) (fun k => μ 34 k + μ 6 t * -1 * smp (μ 1 11) (μ 2) (μ 3) (μ 7 (120 * t + (μ 8 t - 2))) (μ 7 (120 * t + (μ 8 t - 1))) k), up1 (μ 35) (chN (μ 7 (120 * t + (μ 8 t - 2))) (μ 7 (120 * t + (μ 8 t - 1)))) (μ 35 (chN (μ 7 (120 * t + (μ 8 t - 2))) (μ 7 (120 * t + (μ 8 t - 1)))) + -1), hc, gClo_pop hCl (by omega) (by omega) (fun k k1 k2 => ?_) (fun c c1 c2 => ?_), ?_⟩
         rotate_left 2
         · rw [ot_up_uc]
           simp (disch := decide) only [ot_ucd, ot_ucs]
         · rw [if_neg h0, wr_in ⟨k1, k2⟩, show μ 6 t * -1 = - μ 6 t by omega, Int.neg_mul]
         · rw [if_neg h0]
           by_cases hcc : chN (μ 7 (120 * t + (μ 8 t - 2))) (μ 7 (120 * t + (μ 8 t - 1))) = c
           · subst hcc; rw [up1_s, if_pos rfl]
           · rw [up1_n (fun w => hcc w.symm), if_neg hcc]; omega)
  · refine tt_aload_n X rfl dX1_goBack_15 ?_
    refine tt_iload_n X rfl dX1_goBack_16 ?_
    refine tt_iload_n X rfl dX1_goBack_17 ?_
    refine tt_aload_n X rfl dX1_goBack_18 ?_
    refine tt_getr X fX1_25 (k_33 _ _) (by decide) ⟨nofun, nofun⟩ rfl dX1_goBack_19 ?_
    refine tt_iload_n X rfl dX1_goBack_22 ?_
    refine tt_vi X rfl mX1_81 (c_lastPin l g ln ext _ _ (by omega) (by omega)) (k_1 _ _) ⟨_, rfl, rfl⟩ rfl rfl (Nat.le_of_ble_eq_true rfl) (by decide) (by decide) (by decide) dX1_goBack_23 (fun z23 L23 μ23 hp => ?_)
    obtain ⟨rfl, e23, hz23⟩ := hp
    replace e23 := e23.symm
    subst e23
    rw [e1] at hz23
    try simp (disch := decide) only [ot_rd, ot_rs, ot_rf, ot_ucd, ot_ucs] at hz23
    refine tt_iconst X dX1_goBack_26 ?_
    refine tt_vv X rfl mX1_56 (c_lay l g ln ext _ _ _ _ _ hG hCh (by omega) (by omega) (by omega) (by omega)) (k_33 _ _) ⟨_, rfl, rfl⟩ rfl rfl (Nat.le_of_ble_eq_true rfl) (by decide) (by decide) (by decide) dX1_goBack_27 (fun L27 μ27 hp => ?_)
    obtain ⟨rfl, f, z, hc, rfl⟩ := hp
    refine tt_aload_n X rfl dX1_goBack_30 ?_
    refine tt_getr X fX1_25 (k_33 _ _) (by decide) ⟨nofun, nofun⟩ rfl dX1_goBack_31 ?_
    refine tt_getr X fX1_48 (k_1 _ _) (by decide) ⟨nofun, nofun⟩ rfl dX1_goBack_34 ?_
    refine tt_iload_n X rfl dX1_goBack_37 ?_
    refine tt_aload_n X rfl dX1_goBack_38 ?_
    refine tt_getr X fX1_25 (k_33 _ _) (by decide) ⟨nofun, nofun⟩ rfl dX1_goBack_39 ?_
    refine tt_getr X fX1_48 (k_1 _ _) (by decide) ⟨nofun, nofun⟩ rfl dX1_goBack_42 ?_
    refine tt_iload_n X rfl dX1_goBack_45 ?_
    refine tt_iaload X (k_8 _ _) (by first | omega | (simp (disch := decide) only [ot_rd, ot_rs, ot_rf, ot_ucd, ot_ucs]; omega)) dX1_goBack_46 ?_
    try simp (disch := decide) only [ot_rd, ot_rs, ot_rf, ot_ucd, ot_ucs]
    refine tt_iconst X dX1_goBack_47 ?_
    refine tt_isub X dX1_goBack_48 ?_
    refine tt_iconst X dX1_goBack_49 ?_
    refine tt_max X rfl mX1_87 (by omega) (Nat.le_of_ble_eq_true rfl) (by decide) (by decide) dX1_goBack_50 ?_
    refine tt_iastore X (k_8 _ _) (by first | omega | (simp (disch := decide) only [ot_rd, ot_rs, ot_rf, ot_ucd, ot_ucs]; omega)) dX1_goBack_53 ?_
    refine tt_vret X ⟨hr.1, hr.2.1⟩ (by decide) (by decide) dX1_goBack_54 ?_
    refine ⟨rfl, ?_⟩
    first
      | (have h0 : μ 8 t ≤ 1 := by omega
         refine ⟨μ 38, μ 39, μ 34, μ 35, hCh, gClo_pop hCl (by omega) (by omega) (fun k _ _ => by rw [if_pos h0, Int.add_zero]) (fun c _ _ => by rw [if_pos h0, Int.add_zero]), ?_⟩
         rw [← ot_cl1, ot_up_uc])
      | (have h0 : ¬ μ 8 t ≤ 1 := by omega
         rw [if_pos (by omega)] at hz6 hz23
         subst hz6 hz23
         have hch := chN_in (a := μ 7 (120 * t + (μ 8 t - 2))) (b := μ 7 (120 * t + (μ 8 t - 1))) (by omega) (by omega) (by omega)
         refine ⟨f, z, wr 64 (μ 34) (fun k => μ 34 k + μ 6 t * -1 * smp (μ 1 11) (μ 2) (μ 3) (μ 7 (120 * t + (μ 8 t - 2))) (μ 7 (120 * t + (μ 8 t - 1))) k), up1 (μ 35) (chN (μ 7 (120 * t + (μ 8 t - 2))) (μ 7 (120 * t + (μ 8 t - 1)))) (μ 35 (chN (μ 7 (120 * t + (μ 8 t - 2))) (μ 7 (120 * t + (μ 8 t - 1)))) + -1), hc, gClo_pop hCl (by omega) (by omega) (fun k k1 k2 => ?_) (fun c c1 c2 => ?_), ?_⟩
         rotate_left 2
         · rw [ot_up_uc]
           simp (disch := decide) only [ot_ucd, ot_ucs]
         · rw [if_neg h0, wr_in ⟨k1, k2⟩, show μ 6 t * -1 = - μ 6 t by omega, Int.neg_mul]
         · rw [if_neg h0]
           by_cases hcc : chN (μ 7 (120 * t + (μ 8 t - 2))) (μ 7 (120 * t + (μ 8 t - 1))) = c
           · subst hcc; rw [up1_s, if_pos rfl]
           · rw [up1_n (fun w => hcc w.symm), if_neg hcc]; omega)

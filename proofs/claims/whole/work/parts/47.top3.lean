theorem ot_uc_id {X : ot_M} {k : Nat} {f : Int → Int} (h : X k = f) : ot_uc X k f = X := by rw [← h]; exact ot_uc_self
set_option maxRecDepth 100000 in
set_option maxHeartbeats 1000000 in
theorem c_asAtFirst17 (l : Launch) (g : ot_G) (ln : Nat) (ext : ot_L) (μ : ot_M) (v : Int) {L : ot_L} (hk17 : L[17]? = some (10, 0, [some 18, some 19, some 20, some 21, some 22, some 23, some 24, some 25, some 26, some 27, some 28, none, none, none])) (hk28 : L[28]? = some (5, 0, [some 29, some 30, some 31, some 32, none])) (hk20 : L[20]? = some (0, 256, [])) (hk21 : L[21]? = some (0, 64, [])) (hk27 : L[27]? = some (0, 64, [])) (hk22 : L[22]? = some (0, 3, [])) (hk24 : L[24]? = some (0, 3, [])) : ot_C l g yX8_asAtFirst cX8_asAtFirst 3 none 1 0 0 [.inr 17, .inl v] L μ (ot_pv (fun L2 μ2 => L2 = L ∧ μ2 = ot_uc (ot_uc (ot_uc (ot_uc (ot_uc (ot_up (ot_up (ot_up (ot_up μ 17 11 v) 17 12 0) 17 13 0) 28 4 0) 20 (wr 256 (μ 20) (fun _ => 0))) 21 (wr 64 (μ 21) (fun _ => 1))) 27 (wr 64 (μ 27) (fun _ => -1))) 22 (wr 3 (μ 22) (fun t => t + 1))) 24 (wr 3 (μ 24) (fun _ => 0)))) := by
  refine ot_enter (by decide) (Nat.le_of_ble_eq_true rfl) ?_
  intro p e s m args below meth c X hr
  refine tt_aload_n X rfl dX8_asAtFirst_0 ?_
  refine tt_iload_n X rfl dX8_asAtFirst_1 ?_
  refine tt_puti X fX8_53 kc_8 hk17 (by decide) (fun q hq => by cases hq; rfl) rfl dX8_asAtFirst_2 ?_
  refine tt_aload_n X rfl dX8_asAtFirst_5 ?_
  refine tt_iconst X dX8_asAtFirst_6 ?_
  refine tt_puti X fX8_57 kc_8 hk17 (by decide) (fun q hq => by cases hq; rfl) rfl dX8_asAtFirst_7 ?_
  refine tt_aload_n X rfl dX8_asAtFirst_10 ?_
  refine tt_iconst X dX8_asAtFirst_11 ?_
  refine tt_puti X fX8_60 kc_8 hk17 (by decide) (fun q hq => by cases hq; rfl) rfl dX8_asAtFirst_12 ?_
  refine tt_aload_n X rfl dX8_asAtFirst_15 ?_
  refine tt_getr X fX8_45 hk17 (by decide) ⟨nofun, nofun⟩ rfl dX8_asAtFirst_16 ?_
  refine tt_iconst X dX8_asAtFirst_19 ?_
  refine tt_puti X fX8_63 kc_3 hk28 (by decide) (fun q hq => by cases hq; rfl) rfl dX8_asAtFirst_20 ?_
  refine tt_aload_n X rfl dX8_asAtFirst_23 ?_
  refine tt_getr X fX8_18 hk17 (by decide) ⟨nofun, nofun⟩ rfl dX8_asAtFirst_24 ?_
  refine tt_iconst X dX8_asAtFirst_27 ?_
  refine tt_sv X rfl mX8_64 (c_fill l g ln ext _ (rs := []) 20 256 _ hk20 (by decide)) rfl rfl (Nat.le_of_ble_eq_true rfl) (by decide) (by decide) (by decide) dX8_asAtFirst_28 (fun L28 μ28 hp => ?_)
  obtain ⟨rfl, rfl⟩ := hp
  refine tt_aload_n X rfl dX8_asAtFirst_31 ?_
  refine tt_getr X fX8_21 hk17 (by decide) ⟨nofun, nofun⟩ rfl dX8_asAtFirst_32 ?_
  refine tt_iconst X dX8_asAtFirst_35 ?_
  refine tt_sv X rfl mX8_64 (c_fill l g ln ext _ (rs := []) 21 64 _ hk21 (by decide)) rfl rfl (Nat.le_of_ble_eq_true rfl) (by decide) (by decide) (by decide) dX8_asAtFirst_36 (fun L36 μ36 hp => ?_)
  obtain ⟨rfl, rfl⟩ := hp
  refine tt_aload_n X rfl dX8_asAtFirst_39 ?_
  refine tt_getr X fX8_39 hk17 (by decide) ⟨nofun, nofun⟩ rfl dX8_asAtFirst_40 ?_
  refine tt_iconst X dX8_asAtFirst_43 ?_
  refine tt_sv X rfl mX8_64 (c_fill l g ln ext _ (rs := []) 27 64 _ hk27 (by decide)) rfl rfl (Nat.le_of_ble_eq_true rfl) (by decide) (by decide) (by decide) dX8_asAtFirst_44 (fun L44 μ44 hp => ?_)
  obtain ⟨rfl, rfl⟩ := hp
  refine tt_iconst X dX8_asAtFirst_47 ?_
  refine tt_istore_n X dX8_asAtFirst_48 (by decide) ?_
  refine tt_mem (μ' := ot_uc (ot_uc (ot_uc (ot_uc (ot_uc (ot_up (ot_up (ot_up (ot_up μ 17 11 v) 17 12 0) 17 13 0) 28 4 0) 20 (wr 256 (μ 20) (fun _ => 0))) 21 (wr 64 (μ 21) (fun _ => 1))) 27 (wr 64 (μ 27) (fun _ => -1))) 22 (wr 0 (μ 22) (fun t => t + 1))) 24 (wr 0 (μ 24) (fun _ => 0))) ?_ ?_
  · rw [wr_zero, wr_zero, ot_uc_id (k := 22) (by simp (disch := decide) only [ot_ucd, ot_ucs, ot_rd, ot_rs, ot_rf]; simp (disch := decide) only [ot_rc]), ot_uc_id (k := 24) (by simp (disch := decide) only [ot_ucd, ot_ucs, ot_rd, ot_rs, ot_rf]; simp (disch := decide) only [ot_rc])]
    simp (disch := decide) only [ot_rc, ot_ucd]
    rfl
  refine tt_loc [(0, _), (2, _)] ⟨rfl, rfl, trivial⟩ ?_
  refine tt_loop (α := Int) (fun i => (3 - i).toNat) (fun i => 0 ≤ i ∧ i ≤ 3) (fun i => ot_uc (ot_uc (ot_uc (ot_uc (ot_uc (ot_up (ot_up (ot_up (ot_up μ 17 11 v) 17 12 0) 17 13 0) 28 4 0) 20 (wr 256 (μ 20) (fun _ => 0))) 21 (wr 64 (μ 21) (fun _ => 1))) 27 (wr 64 (μ 27) (fun _ => -1))) 22 (wr i (μ 22) (fun t => t + 1))) 24 (wr i (μ 24) (fun _ => 0))) (fun i => [(0, .inr 17), (2, .inl i)]) 0 (by omega) ?_
  intro i hI ih
  try dsimp only at hI ih ⊢
  refine tt_iload_n X rfl dX8_asAtFirst_49 ?_
  refine tt_iconst X dX8_asAtFirst_50 ?_
  refine tt_icmp_ge X 76 (by first | omega | (simp (disch := decide) only [ot_rd, ot_rs, ot_rf, ot_ucd, ot_ucs]; omega)) dX8_asAtFirst_51 (by decide) (fun b51 => ?_) (fun b51 => ?_)
  · refine tt_vret X ⟨hr.1, hr.2.1⟩ (by decide) (by decide) dX8_asAtFirst_76 ?_
    refine ⟨rfl, ?_⟩
    rw [show i = 3 by omega]
  · refine tt_aload_n X rfl dX8_asAtFirst_54 ?_
    refine tt_getr X fX8_24 hk17 (by decide) ⟨nofun, nofun⟩ rfl dX8_asAtFirst_55 ?_
    refine tt_iload_n X rfl dX8_asAtFirst_58 ?_
    refine tt_iload_n X rfl dX8_asAtFirst_59 ?_
    refine tt_iconst X dX8_asAtFirst_60 ?_
    refine tt_iadd X dX8_asAtFirst_61 ?_
    refine tt_iastore X hk22 (by first | omega | (simp (disch := decide) only [ot_rd, ot_rs, ot_rf, ot_ucd, ot_ucs]; omega)) dX8_asAtFirst_62 ?_
    refine tt_aload_n X rfl dX8_asAtFirst_63 ?_
    refine tt_getr X fX8_30 hk17 (by decide) ⟨nofun, nofun⟩ rfl dX8_asAtFirst_64 ?_
    refine tt_iload_n X rfl dX8_asAtFirst_67 ?_
    refine tt_iconst X dX8_asAtFirst_68 ?_
    refine tt_iastore X hk24 (by first | omega | (simp (disch := decide) only [ot_rd, ot_rs, ot_rf, ot_ucd, ot_ucs]; omega)) dX8_asAtFirst_69 ?_
    refine tt_iinc X dX8_asAtFirst_70 rfl (by decide) ?_
    refine tt_goto X 49 dX8_asAtFirst_73 (by decide) ?_
    refine tt_loc [(0, _), (2, _)] ⟨rfl, rfl, trivial⟩ ?_
    refine tt_mem (μ' := ot_uc (ot_uc (ot_uc (ot_uc (ot_uc (ot_up (ot_up (ot_up (ot_up μ 17 11 v) 17 12 0) 17 13 0) 28 4 0) 20 (wr 256 (μ 20) (fun _ => 0))) 21 (wr 64 (μ 21) (fun _ => 1))) 27 (wr 64 (μ 27) (fun _ => -1))) 22 (wr (i + 1) (μ 22) (fun t => t + 1))) 24 (wr (i + 1) (μ 24) (fun _ => 0))) ?_ ?_
    · rw [show ot_up (ot_uc (ot_uc (ot_uc (ot_uc (ot_uc (ot_up (ot_up (ot_up (ot_up μ 17 11 v) 17 12 0) 17 13 0) 28 4 0) 20 (wr 256 (μ 20) (fun _ => 0))) 21 (wr 64 (μ 21) (fun _ => 1))) 27 (wr 64 (μ 27) (fun _ => -1))) 22 (wr i (μ 22) (fun t => t + 1))) 24 (wr i (μ 24) (fun _ => 0))) 22 i (i + 1) = ot_uc (ot_uc (ot_uc (ot_uc (ot_uc (ot_up (ot_up (ot_up (ot_up μ 17 11 v) 17 12 0) 17 13 0) 28 4 0) 20 (wr 256 (μ 20) (fun _ => 0))) 21 (wr 64 (μ 21) (fun _ => 1))) 27 (wr 64 (μ 27) (fun _ => -1))) 22 (wr (i + 1) (μ 22) (fun t => t + 1))) 24 (wr i (μ 24) (fun _ => 0)) from by rw [ot_ucc (by decide), ot_uc_wr hI.1 rfl, ot_ucc (by decide)]]
      exact ot_uc_wr hI.1 rfl
    exact ih (i + 1) (by omega) (by omega)
set_option maxRecDepth 100000 in
set_option maxHeartbeats 1000000 in
theorem c_asAtFirst (l : Launch) (g : ot_G) (ln : Nat) (ext : ot_L) (μ : ot_M) (v : Int) {L : ot_L} (hk1 : L[1]? = some (10, 0, [some 2, some 3, some 4, some 5, some 6, some 7, some 8, some 9, some 10, some 11, some 12, none, none, none])) (hk12 : L[12]? = some (5, 0, [some 13, some 14, some 15, some 16, none])) (hk4 : L[4]? = some (0, 256, [])) (hk5 : L[5]? = some (0, 64, [])) (hk11 : L[11]? = some (0, 64, [])) (hk6 : L[6]? = some (0, 3, [])) (hk8 : L[8]? = some (0, 3, [])) : ot_C l g yX8_asAtFirst cX8_asAtFirst 3 none 1 0 0 [.inr 1, .inl v] L μ (ot_pv (fun L2 μ2 => L2 = L ∧ μ2 = ot_uc (ot_uc (ot_uc (ot_uc (ot_uc (ot_up (ot_up (ot_up (ot_up μ 1 11 v) 1 12 0) 1 13 0) 12 4 0) 4 (wr 256 (μ 4) (fun _ => 0))) 5 (wr 64 (μ 5) (fun _ => 1))) 11 (wr 64 (μ 11) (fun _ => -1))) 6 (wr 3 (μ 6) (fun t => t + 1))) 8 (wr 3 (μ 8) (fun _ => 0)))) := by
  refine ot_enter (by decide) (Nat.le_of_ble_eq_true rfl) ?_
  intro p e s m args below meth c X hr
  refine tt_aload_n X rfl dX8_asAtFirst_0 ?_
  refine tt_iload_n X rfl dX8_asAtFirst_1 ?_
  refine tt_puti X fX8_53 kc_8 hk1 (by decide) (fun q hq => by cases hq; rfl) rfl dX8_asAtFirst_2 ?_
  refine tt_aload_n X rfl dX8_asAtFirst_5 ?_
  refine tt_iconst X dX8_asAtFirst_6 ?_
  refine tt_puti X fX8_57 kc_8 hk1 (by decide) (fun q hq => by cases hq; rfl) rfl dX8_asAtFirst_7 ?_
  refine tt_aload_n X rfl dX8_asAtFirst_10 ?_
  refine tt_iconst X dX8_asAtFirst_11 ?_
  refine tt_puti X fX8_60 kc_8 hk1 (by decide) (fun q hq => by cases hq; rfl) rfl dX8_asAtFirst_12 ?_
  refine tt_aload_n X rfl dX8_asAtFirst_15 ?_
  refine tt_getr X fX8_45 hk1 (by decide) ⟨nofun, nofun⟩ rfl dX8_asAtFirst_16 ?_
  refine tt_iconst X dX8_asAtFirst_19 ?_
  refine tt_puti X fX8_63 kc_3 hk12 (by decide) (fun q hq => by cases hq; rfl) rfl dX8_asAtFirst_20 ?_
  refine tt_aload_n X rfl dX8_asAtFirst_23 ?_
  refine tt_getr X fX8_18 hk1 (by decide) ⟨nofun, nofun⟩ rfl dX8_asAtFirst_24 ?_
  refine tt_iconst X dX8_asAtFirst_27 ?_
  refine tt_sv X rfl mX8_64 (c_fill l g ln ext _ (rs := []) 4 256 _ hk4 (by decide)) rfl rfl (Nat.le_of_ble_eq_true rfl) (by decide) (by decide) (by decide) dX8_asAtFirst_28 (fun L28 μ28 hp => ?_)
  obtain ⟨rfl, rfl⟩ := hp
  refine tt_aload_n X rfl dX8_asAtFirst_31 ?_
  refine tt_getr X fX8_21 hk1 (by decide) ⟨nofun, nofun⟩ rfl dX8_asAtFirst_32 ?_
  refine tt_iconst X dX8_asAtFirst_35 ?_
  refine tt_sv X rfl mX8_64 (c_fill l g ln ext _ (rs := []) 5 64 _ hk5 (by decide)) rfl rfl (Nat.le_of_ble_eq_true rfl) (by decide) (by decide) (by decide) dX8_asAtFirst_36 (fun L36 μ36 hp => ?_)
  obtain ⟨rfl, rfl⟩ := hp
  refine tt_aload_n X rfl dX8_asAtFirst_39 ?_
  refine tt_getr X fX8_39 hk1 (by decide) ⟨nofun, nofun⟩ rfl dX8_asAtFirst_40 ?_
  refine tt_iconst X dX8_asAtFirst_43 ?_
  refine tt_sv X rfl mX8_64 (c_fill l g ln ext _ (rs := []) 11 64 _ hk11 (by decide)) rfl rfl (Nat.le_of_ble_eq_true rfl) (by decide) (by decide) (by decide) dX8_asAtFirst_44 (fun L44 μ44 hp => ?_)
  obtain ⟨rfl, rfl⟩ := hp
  refine tt_iconst X dX8_asAtFirst_47 ?_
  refine tt_istore_n X dX8_asAtFirst_48 (by decide) ?_
  refine tt_mem (μ' := ot_uc (ot_uc (ot_uc (ot_uc (ot_uc (ot_up (ot_up (ot_up (ot_up μ 1 11 v) 1 12 0) 1 13 0) 12 4 0) 4 (wr 256 (μ 4) (fun _ => 0))) 5 (wr 64 (μ 5) (fun _ => 1))) 11 (wr 64 (μ 11) (fun _ => -1))) 6 (wr 0 (μ 6) (fun t => t + 1))) 8 (wr 0 (μ 8) (fun _ => 0))) ?_ ?_
  · rw [wr_zero, wr_zero, ot_uc_id (k := 6) (by simp (disch := decide) only [ot_ucd, ot_ucs, ot_rd, ot_rs, ot_rf]; simp (disch := decide) only [ot_rc]), ot_uc_id (k := 8) (by simp (disch := decide) only [ot_ucd, ot_ucs, ot_rd, ot_rs, ot_rf]; simp (disch := decide) only [ot_rc])]
    simp (disch := decide) only [ot_rc, ot_ucd]
    rfl
  refine tt_loc [(0, _), (2, _)] ⟨rfl, rfl, trivial⟩ ?_
  refine tt_loop (α := Int) (fun i => (3 - i).toNat) (fun i => 0 ≤ i ∧ i ≤ 3) (fun i => ot_uc (ot_uc (ot_uc (ot_uc (ot_uc (ot_up (ot_up (ot_up (ot_up μ 1 11 v) 1 12 0) 1 13 0) 12 4 0) 4 (wr 256 (μ 4) (fun _ => 0))) 5 (wr 64 (μ 5) (fun _ => 1))) 11 (wr 64 (μ 11) (fun _ => -1))) 6 (wr i (μ 6) (fun t => t + 1))) 8 (wr i (μ 8) (fun _ => 0))) (fun i => [(0, .inr 1), (2, .inl i)]) 0 (by omega) ?_
  intro i hI ih
  try dsimp only at hI ih ⊢
  refine tt_iload_n X rfl dX8_asAtFirst_49 ?_
  refine tt_iconst X dX8_asAtFirst_50 ?_
  refine tt_icmp_ge X 76 (by first | omega | (simp (disch := decide) only [ot_rd, ot_rs, ot_rf, ot_ucd, ot_ucs]; omega)) dX8_asAtFirst_51 (by decide) (fun b51 => ?_) (fun b51 => ?_)
  · refine tt_vret X ⟨hr.1, hr.2.1⟩ (by decide) (by decide) dX8_asAtFirst_76 ?_
    refine ⟨rfl, ?_⟩
    rw [show i = 3 by omega]
  · refine tt_aload_n X rfl dX8_asAtFirst_54 ?_
    refine tt_getr X fX8_24 hk1 (by decide) ⟨nofun, nofun⟩ rfl dX8_asAtFirst_55 ?_
    refine tt_iload_n X rfl dX8_asAtFirst_58 ?_
    refine tt_iload_n X rfl dX8_asAtFirst_59 ?_
    refine tt_iconst X dX8_asAtFirst_60 ?_
    refine tt_iadd X dX8_asAtFirst_61 ?_
    refine tt_iastore X hk6 (by first | omega | (simp (disch := decide) only [ot_rd, ot_rs, ot_rf, ot_ucd, ot_ucs]; omega)) dX8_asAtFirst_62 ?_
    refine tt_aload_n X rfl dX8_asAtFirst_63 ?_
    refine tt_getr X fX8_30 hk1 (by decide) ⟨nofun, nofun⟩ rfl dX8_asAtFirst_64 ?_
    refine tt_iload_n X rfl dX8_asAtFirst_67 ?_
    refine tt_iconst X dX8_asAtFirst_68 ?_
    refine tt_iastore X hk8 (by first | omega | (simp (disch := decide) only [ot_rd, ot_rs, ot_rf, ot_ucd, ot_ucs]; omega)) dX8_asAtFirst_69 ?_
    refine tt_iinc X dX8_asAtFirst_70 rfl (by decide) ?_
    refine tt_goto X 49 dX8_asAtFirst_73 (by decide) ?_
    refine tt_loc [(0, _), (2, _)] ⟨rfl, rfl, trivial⟩ ?_
    refine tt_mem (μ' := ot_uc (ot_uc (ot_uc (ot_uc (ot_uc (ot_up (ot_up (ot_up (ot_up μ 1 11 v) 1 12 0) 1 13 0) 12 4 0) 4 (wr 256 (μ 4) (fun _ => 0))) 5 (wr 64 (μ 5) (fun _ => 1))) 11 (wr 64 (μ 11) (fun _ => -1))) 6 (wr (i + 1) (μ 6) (fun t => t + 1))) 8 (wr (i + 1) (μ 8) (fun _ => 0))) ?_ ?_
    · rw [show ot_up (ot_uc (ot_uc (ot_uc (ot_uc (ot_uc (ot_up (ot_up (ot_up (ot_up μ 1 11 v) 1 12 0) 1 13 0) 12 4 0) 4 (wr 256 (μ 4) (fun _ => 0))) 5 (wr 64 (μ 5) (fun _ => 1))) 11 (wr 64 (μ 11) (fun _ => -1))) 6 (wr i (μ 6) (fun t => t + 1))) 8 (wr i (μ 8) (fun _ => 0))) 6 i (i + 1) = ot_uc (ot_uc (ot_uc (ot_uc (ot_uc (ot_up (ot_up (ot_up (ot_up μ 1 11 v) 1 12 0) 1 13 0) 12 4 0) 4 (wr 256 (μ 4) (fun _ => 0))) 5 (wr 64 (μ 5) (fun _ => 1))) 11 (wr 64 (μ 11) (fun _ => -1))) 6 (wr (i + 1) (μ 6) (fun t => t + 1))) 8 (wr i (μ 8) (fun _ => 0)) from by rw [ot_ucc (by decide), ot_uc_wr hI.1 rfl, ot_ucc (by decide)]]
      exact ot_uc_wr hI.1 rfl
    exact ih (i + 1) (by omega) (by omega)
/-- the memory behind asAtFirst(v) on now -/
def boardM (μ : ot_M) (v : Int) : ot_M := ot_uc (ot_uc (ot_uc (ot_uc (ot_uc (ot_up (ot_up (ot_up (ot_up μ 1 11 v) 1 12 0) 1 13 0) 12 4 0) 4 (wr 256 (μ 4) (fun _ => 0))) 5 (wr 64 (μ 5) (fun _ => 1))) 11 (wr 64 (μ 11) (fun _ => -1))) 6 (wr 3 (μ 6) (fun t => t + 1))) 8 (wr 3 (μ 8) (fun _ => 0))
theorem boardM_at (μ : ot_M) (v : Int) : boardM μ v 1 11 = v ∧ boardM μ v 1 12 = 0 ∧ boardM μ v 1 13 = 0 ∧ boardM μ v 12 4 = 0 ∧ (∀ k, 0 ≤ k → k < 256 → boardM μ v 4 k = 0) ∧ (∀ k, 0 ≤ k → k < 64 → boardM μ v 5 k = 1) ∧ (∀ k, 0 ≤ k → k < 64 → boardM μ v 11 k = -1) ∧ (∀ t, 0 ≤ t → t < 3 → boardM μ v 6 t = t + 1 ∧ boardM μ v 8 t = 0) := by
  refine ⟨?_, ?_, ?_, ?_, fun k h1 h2 => ?_, fun k h1 h2 => ?_, fun k h1 h2 => ?_, fun t h1 h2 => ⟨?_, ?_⟩⟩ <;> unfold boardM <;> simp (disch := decide) only [ot_ucd, ot_ucs, ot_rd, ot_rs, ot_rf]
  · exact wr_in ⟨h1, h2⟩
  · exact wr_in ⟨h1, h2⟩
  · exact wr_in ⟨h1, h2⟩
  · exact wr_in ⟨h1, h2⟩
  · exact wr_in ⟨h1, h2⟩
theorem boardM_o {μ : ot_M} {v : Int} {k : Nat} (h : k ≠ 1 ∧ k ≠ 12 ∧ k ≠ 4 ∧ k ≠ 5 ∧ k ≠ 11 ∧ k ≠ 6 ∧ k ≠ 8) : boardM μ v k = μ k := by
  funext j
  unfold boardM
  simp [ot_uc, ot_up, h]
theorem boardM_f {μ : ot_M} {v : Int} {j : Int} (h : j ≠ 11 ∧ j ≠ 12 ∧ j ≠ 13) : boardM μ v 1 j = μ 1 j := by
  unfold boardM
  simp [ot_uc, ot_up, h]
theorem gPin_none {S : Int} {px py : Int → Int} (h : 2 ≤ S ∧ S ≤ 8) : gPin S 0 px py := ⟨h, by omega, fun i h1 h2 => by omega, fun i j h1 h2 => by omega⟩
theorem gWnd_none {n : Int} {cnt row : Int → Int} (h : ∀ t, 0 ≤ t → t < 3 → cnt t = 0) : gWnd n cnt row := fun t h1 h2 => by
  rw [h t h1 h2]
  exact ⟨by omega, fun i a b => by omega, fun i a b => by omega⟩
set_option maxRecDepth 100000 in
set_option maxHeartbeats 1000000 in
theorem c_board (l : Launch) (g : ot_G) (ln : Nat) (ext : ot_L) (μ : ot_M) (v : Int) (hv : -2147483648 ≤ v ∧ v ≤ 2147483647) : ot_C l g yX9_board cX9_board 2 (some .boolean) 7 0 0 [.inr 0, .inl v] (LL ln ext) μ (ot_pi (fun r L2 μ2 => L2 = LL ln ext ∧ (((2 ≤ v ∧ v ≤ 8) ∧ r = 1 ∧ ∃ f z, gChd v 0 ((boardM μ v) 2) ((boardM μ v) 3) f z ∧ μ2 = ot_up (ot_uc (ot_uc (ot_uc (ot_uc (boardM μ v) 38 f) 39 z) 34 (wr 64 (μ 34) (dk ((boardM μ v) 1 11) ((boardM μ v) 2) ((boardM μ v) 3) ((boardM μ v) 8) ((boardM μ v) 7) ((boardM μ v) 6)))) 35 (wr 276 (μ 35) (usC ((boardM μ v) 8) ((boardM μ v) 7)))) 0 14 0) ∨ (¬ (2 ≤ v ∧ v ≤ 8) ∧ r = 0 ∧ μ2 = μ)))) := by
  refine ot_enter (by decide) (Nat.le_of_ble_eq_true rfl) ?_
  intro p e s m args below meth c X hr
  refine tt_iload_n X rfl dX9_board_0 ?_
  refine tt_iconst X dX9_board_1 ?_
  refine tt_icmp_lt X 11 (by omega) dX9_board_2 (by decide) (fun b2 => ?_) (fun b2 => ?_)
  · refine tt_iconst X dX9_board_11 ?_
    refine tt_zret X ⟨hr.1, hr.2.1⟩ (by omega) (by decide) (by decide) dX9_board_12 ?_
    first | exact ⟨rfl, Or.inr ⟨by omega, rfl, rfl⟩⟩ | exact ⟨rfl, Or.inl ⟨by omega, rfl, f, z, hc, rfl⟩⟩
  · refine tt_iload_n X rfl dX9_board_5 ?_
    refine tt_bipush X (by decide) dX9_board_6 ?_
    refine tt_icmp_le X 13 (by omega) dX9_board_8 (by decide) (fun b8 => ?_) (fun b8 => ?_)
    · refine tt_aload_n X rfl dX9_board_13 ?_
      refine tt_getr X fX9_12 (k_0 _ _) (by decide) ⟨nofun, nofun⟩ rfl dX9_board_14 ?_
      refine tt_iload_n X rfl dX9_board_17 ?_
      refine tt_vv X rfl mX9_82 (c_asAtFirst l g ln ext _ _ (k_1 _ _) (k_12 _ _) (k_4 _ _) (k_5 _ _) (k_11 _ _) (k_6 _ _) (k_8 _ _)) (k_1 _ _) ⟨_, rfl, rfl⟩ rfl rfl (Nat.le_of_ble_eq_true rfl) (by decide) (by decide) (by decide) dX9_board_18 (fun L18 μ18 hp => ?_)
      obtain ⟨rfl, rfl⟩ := hp
      refine tt_mem (show _ = boardM μ v from rfl) ?_
      have hA := boardM_at μ v
      refine tt_aload_n X rfl dX9_board_21 ?_
      refine tt_getr X fX9_24 (k_0 _ _) (by decide) ⟨nofun, nofun⟩ rfl dX9_board_22 ?_
      refine tt_vv X rfl mX9_86 (c_renew l g ln ext _ (by rw [hA.1, hA.2.1]; exact gPin_none (by omega)) (gWnd_none (fun t h1 h2 => (hA.2.2.2.2.2.2.2 t h1 h2).2))) (k_33 _ _) ⟨_, rfl, rfl⟩ rfl rfl (Nat.le_of_ble_eq_true rfl) (by decide) (by decide) (by decide) dX9_board_25 (fun L25 μ25 hp => ?_)
      obtain ⟨rfl, f, z, hc, rfl⟩ := hp
      rw [boardM_o (k := 34) (by decide), boardM_o (k := 35) (by decide)]
      rw [hA.1, hA.2.1] at hc
      refine tt_aload_n X rfl dX9_board_28 ?_
      refine tt_iconst X dX9_board_29 ?_
      refine tt_puti X fX9_89 kc_9 (k_0 _ _) (by decide) (fun q hq => by cases hq; rfl) rfl dX9_board_30 ?_
      refine tt_iconst X dX9_board_33 ?_
      refine tt_zret X ⟨hr.1, hr.2.1⟩ (by omega) (by decide) (by decide) dX9_board_34 ?_
      first | exact ⟨rfl, Or.inr ⟨by omega, rfl, rfl⟩⟩ | exact ⟨rfl, Or.inl ⟨by omega, rfl, f, z, hc, rfl⟩⟩
    · refine tt_iconst X dX9_board_11 ?_
      refine tt_zret X ⟨hr.1, hr.2.1⟩ (by omega) (by decide) (by decide) dX9_board_12 ?_
      first | exact ⟨rfl, Or.inr ⟨by omega, rfl, rfl⟩⟩ | exact ⟨rfl, Or.inl ⟨by omega, rfl, f, z, hc, rfl⟩⟩

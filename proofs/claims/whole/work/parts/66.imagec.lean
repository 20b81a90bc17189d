def takeM17 (μ : ot_M) : ot_M := ot_uc (ot_uc (ot_uc (ot_uc (ot_uc (ot_uc (ot_uc (ot_uc (ot_uc (ot_uc (ot_uc (ot_uc (ot_uc (ot_up (ot_up (ot_up (ot_up μ 17 11 (μ 1 11)) 17 12 (μ 1 12)) 17 13 (μ 1 13)) 28 4 (μ 12 4)) 29 (wr 400 (μ 29) (μ 13))) 30 (wr 16 (μ 30) (μ 14))) 31 (wr 16 (μ 31) (μ 15))) 18 (wr 24 (μ 18) (μ 2))) 19 (wr 24 (μ 19) (μ 3))) 20 (wr 256 (μ 20) (μ 4))) 21 (wr 64 (μ 21) (μ 5))) 22 (wr 3 (μ 22) (μ 6))) 23 (wr 360 (μ 23) (μ 7))) 24 (wr 3 (μ 24) (μ 8))) 25 (wr 20 (μ 25) (μ 9))) 26 (wr 20 (μ 26) (μ 10))) 27 (wr 64 (μ 27) (μ 11))
set_option maxRecDepth 100000 in
set_option maxHeartbeats 1000000 in
theorem c_takeFrom17 (l : Launch) (g : ot_G) (ln : Nat) (ext : ot_L) (μ : ot_M) (hv : ∀ j, 0 ≤ j → j < 16 → μ 15 j = 0 ∨ μ 15 j = 1) : ot_C l g yX8_takeFrom cX8_takeFrom 2 none 3 0 0 [.inr 17, .inr 1] (LL ln ext) μ (ot_pv (fun L2 μ2 => L2 = LL ln ext ∧ μ2 = takeM17 μ)) := by
  refine ot_enter (by decide) (Nat.le_of_ble_eq_true rfl) ?_
  intro p e s m args below meth c X hr
  refine tt_aload_n X rfl dX8_takeFrom_0 ?_
  refine tt_aload_n X rfl dX8_takeFrom_1 ?_
  refine tt_geti X fX8_53 (k_1 _ _) (by decide) (Or.inl rfl) dX8_takeFrom_2 ?_
  refine tt_puti X fX8_53 kc_8 (k_17 _ _) (by decide) (fun q hq => by cases hq; rfl) rfl dX8_takeFrom_5 ?_
  refine tt_aload_n X rfl dX8_takeFrom_8 ?_
  refine tt_aload_n X rfl dX8_takeFrom_9 ?_
  refine tt_geti X fX8_57 (k_1 _ _) (by decide) (Or.inl rfl) dX8_takeFrom_10 ?_
  try simp (disch := decide) only [ot_rd, ot_rs, ot_rf, ot_ucd, ot_ucs]
  refine tt_puti X fX8_57 kc_8 (k_17 _ _) (by decide) (fun q hq => by cases hq; rfl) rfl dX8_takeFrom_13 ?_
  refine tt_aload_n X rfl dX8_takeFrom_16 ?_
  refine tt_aload_n X rfl dX8_takeFrom_17 ?_
  refine tt_geti X fX8_60 (k_1 _ _) (by decide) (Or.inl rfl) dX8_takeFrom_18 ?_
  try simp (disch := decide) only [ot_rd, ot_rs, ot_rf, ot_ucd, ot_ucs]
  refine tt_puti X fX8_60 kc_8 (k_17 _ _) (by decide) (fun q hq => by cases hq; rfl) rfl dX8_takeFrom_21 ?_
  refine tt_aload_n X rfl dX8_takeFrom_24 ?_
  refine tt_getr X fX8_45 (k_17 _ _) (by decide) ⟨nofun, nofun⟩ rfl dX8_takeFrom_25 ?_
  refine tt_aload_n X rfl dX8_takeFrom_28 ?_
  refine tt_getr X fX8_45 (k_1 _ _) (by decide) ⟨nofun, nofun⟩ rfl dX8_takeFrom_29 ?_
  refine tt_vv X rfl mX8_70 (c_lawTake28 l g ln ext _ (by simp (disch := decide) only [ot_ucd, ot_ucs, ot_rd, ot_rs, ot_rf, ot_rdf]; exact hv)) (k_28 _ _) ⟨_, rfl, rfl⟩ rfl rfl (Nat.le_of_ble_eq_true rfl) (by decide) (by decide) (by decide) dX8_takeFrom_32 (fun L32 μ32 hp => ?_)
  obtain ⟨rfl, rfl⟩ := hp
  refine tt_aload_n X rfl dX8_takeFrom_35 ?_
  refine tt_getr X fX8_9 (k_1 _ _) (by decide) ⟨nofun, nofun⟩ rfl dX8_takeFrom_36 ?_
  refine tt_iconst X dX8_takeFrom_39 ?_
  refine tt_aload_n X rfl dX8_takeFrom_40 ?_
  refine tt_getr X fX8_9 (k_17 _ _) (by decide) ⟨nofun, nofun⟩ rfl dX8_takeFrom_41 ?_
  refine tt_iconst X dX8_takeFrom_44 ?_
  refine tt_bipush X (by decide) dX8_takeFrom_45 ?_
  refine tt_copy X hr.2.2.2 (ot_mem 981 (by decide +kernel) (by decide +kernel)) (k_2 _ _) (k_18 _ _) (Or.inl rfl) (by omega) (by decide) (by decide) dX8_takeFrom_47 ?_
  refine tt_aload_n X rfl dX8_takeFrom_50 ?_
  refine tt_getr X fX8_15 (k_1 _ _) (by decide) ⟨nofun, nofun⟩ rfl dX8_takeFrom_51 ?_
  refine tt_iconst X dX8_takeFrom_54 ?_
  refine tt_aload_n X rfl dX8_takeFrom_55 ?_
  refine tt_getr X fX8_15 (k_17 _ _) (by decide) ⟨nofun, nofun⟩ rfl dX8_takeFrom_56 ?_
  refine tt_iconst X dX8_takeFrom_59 ?_
  refine tt_bipush X (by decide) dX8_takeFrom_60 ?_
  refine tt_copy X hr.2.2.2 (ot_mem 981 (by decide +kernel) (by decide +kernel)) (k_3 _ _) (k_19 _ _) (Or.inl rfl) (by omega) (by decide) (by decide) dX8_takeFrom_62 ?_
  refine tt_aload_n X rfl dX8_takeFrom_65 ?_
  refine tt_getr X fX8_18 (k_1 _ _) (by decide) ⟨nofun, nofun⟩ rfl dX8_takeFrom_66 ?_
  refine tt_iconst X dX8_takeFrom_69 ?_
  refine tt_aload_n X rfl dX8_takeFrom_70 ?_
  refine tt_getr X fX8_18 (k_17 _ _) (by decide) ⟨nofun, nofun⟩ rfl dX8_takeFrom_71 ?_
  refine tt_iconst X dX8_takeFrom_74 ?_
  refine tt_sipush X (by decide) dX8_takeFrom_75 ?_
  refine tt_copy X hr.2.2.2 (ot_mem 981 (by decide +kernel) (by decide +kernel)) (k_4 _ _) (k_20 _ _) (Or.inl rfl) (by omega) (by decide) (by decide) dX8_takeFrom_78 ?_
  refine tt_aload_n X rfl dX8_takeFrom_81 ?_
  refine tt_getr X fX8_21 (k_1 _ _) (by decide) ⟨nofun, nofun⟩ rfl dX8_takeFrom_82 ?_
  refine tt_iconst X dX8_takeFrom_85 ?_
  refine tt_aload_n X rfl dX8_takeFrom_86 ?_
  refine tt_getr X fX8_21 (k_17 _ _) (by decide) ⟨nofun, nofun⟩ rfl dX8_takeFrom_87 ?_
  refine tt_iconst X dX8_takeFrom_90 ?_
  refine tt_bipush X (by decide) dX8_takeFrom_91 ?_
  refine tt_copy X hr.2.2.2 (ot_mem 981 (by decide +kernel) (by decide +kernel)) (k_5 _ _) (k_21 _ _) (Or.inl rfl) (by omega) (by decide) (by decide) dX8_takeFrom_93 ?_
  refine tt_aload_n X rfl dX8_takeFrom_96 ?_
  refine tt_getr X fX8_24 (k_1 _ _) (by decide) ⟨nofun, nofun⟩ rfl dX8_takeFrom_97 ?_
  refine tt_iconst X dX8_takeFrom_100 ?_
  refine tt_aload_n X rfl dX8_takeFrom_101 ?_
  refine tt_getr X fX8_24 (k_17 _ _) (by decide) ⟨nofun, nofun⟩ rfl dX8_takeFrom_102 ?_
  refine tt_iconst X dX8_takeFrom_105 ?_
  refine tt_iconst X dX8_takeFrom_106 ?_
  refine tt_copy X hr.2.2.2 (ot_mem 981 (by decide +kernel) (by decide +kernel)) (k_6 _ _) (k_22 _ _) (Or.inl rfl) (by omega) (by decide) (by decide) dX8_takeFrom_107 ?_
  refine tt_aload_n X rfl dX8_takeFrom_110 ?_
  refine tt_getr X fX8_27 (k_1 _ _) (by decide) ⟨nofun, nofun⟩ rfl dX8_takeFrom_111 ?_
  refine tt_iconst X dX8_takeFrom_114 ?_
  refine tt_aload_n X rfl dX8_takeFrom_115 ?_
  refine tt_getr X fX8_27 (k_17 _ _) (by decide) ⟨nofun, nofun⟩ rfl dX8_takeFrom_116 ?_
  refine tt_iconst X dX8_takeFrom_119 ?_
  refine tt_sipush X (by decide) dX8_takeFrom_120 ?_
  refine tt_copy X hr.2.2.2 (ot_mem 981 (by decide +kernel) (by decide +kernel)) (k_7 _ _) (k_23 _ _) (Or.inl rfl) (by omega) (by decide) (by decide) dX8_takeFrom_123 ?_
  refine tt_aload_n X rfl dX8_takeFrom_126 ?_
  refine tt_getr X fX8_30 (k_1 _ _) (by decide) ⟨nofun, nofun⟩ rfl dX8_takeFrom_127 ?_
  refine tt_iconst X dX8_takeFrom_130 ?_
  refine tt_aload_n X rfl dX8_takeFrom_131 ?_
  refine tt_getr X fX8_30 (k_17 _ _) (by decide) ⟨nofun, nofun⟩ rfl dX8_takeFrom_132 ?_
  refine tt_iconst X dX8_takeFrom_135 ?_
  refine tt_iconst X dX8_takeFrom_136 ?_
  refine tt_copy X hr.2.2.2 (ot_mem 981 (by decide +kernel) (by decide +kernel)) (k_8 _ _) (k_24 _ _) (Or.inl rfl) (by omega) (by decide) (by decide) dX8_takeFrom_137 ?_
  refine tt_aload_n X rfl dX8_takeFrom_140 ?_
  refine tt_getr X fX8_33 (k_1 _ _) (by decide) ⟨nofun, nofun⟩ rfl dX8_takeFrom_141 ?_
  refine tt_iconst X dX8_takeFrom_144 ?_
  refine tt_aload_n X rfl dX8_takeFrom_145 ?_
  refine tt_getr X fX8_33 (k_17 _ _) (by decide) ⟨nofun, nofun⟩ rfl dX8_takeFrom_146 ?_
  refine tt_iconst X dX8_takeFrom_149 ?_
  refine tt_bipush X (by decide) dX8_takeFrom_150 ?_
  refine tt_copy X hr.2.2.2 (ot_mem 981 (by decide +kernel) (by decide +kernel)) (k_9 _ _) (k_25 _ _) (Or.inl rfl) (by omega) (by decide) (by decide) dX8_takeFrom_152 ?_
  refine tt_aload_n X rfl dX8_takeFrom_155 ?_
  refine tt_getr X fX8_36 (k_1 _ _) (by decide) ⟨nofun, nofun⟩ rfl dX8_takeFrom_156 ?_
  refine tt_iconst X dX8_takeFrom_159 ?_
  refine tt_aload_n X rfl dX8_takeFrom_160 ?_
  refine tt_getr X fX8_36 (k_17 _ _) (by decide) ⟨nofun, nofun⟩ rfl dX8_takeFrom_161 ?_
  refine tt_iconst X dX8_takeFrom_164 ?_
  refine tt_bipush X (by decide) dX8_takeFrom_165 ?_
  refine tt_copy X hr.2.2.2 (ot_mem 981 (by decide +kernel) (by decide +kernel)) (k_10 _ _) (k_26 _ _) (Or.inl rfl) (by omega) (by decide) (by decide) dX8_takeFrom_167 ?_
  refine tt_aload_n X rfl dX8_takeFrom_170 ?_
  refine tt_getr X fX8_39 (k_1 _ _) (by decide) ⟨nofun, nofun⟩ rfl dX8_takeFrom_171 ?_
  refine tt_iconst X dX8_takeFrom_174 ?_
  refine tt_aload_n X rfl dX8_takeFrom_175 ?_
  refine tt_getr X fX8_39 (k_17 _ _) (by decide) ⟨nofun, nofun⟩ rfl dX8_takeFrom_176 ?_
  refine tt_iconst X dX8_takeFrom_179 ?_
  refine tt_bipush X (by decide) dX8_takeFrom_180 ?_
  refine tt_copy X hr.2.2.2 (ot_mem 981 (by decide +kernel) (by decide +kernel)) (k_11 _ _) (k_27 _ _) (Or.inl rfl) (by omega) (by decide) (by decide) dX8_takeFrom_182 ?_
  refine tt_vret X ⟨hr.1, hr.2.1⟩ (by decide) (by decide) dX8_takeFrom_185 ?_
  refine ⟨rfl, ?_⟩
  try simp (disch := decide) only [ot_ucd, ot_ucs, ot_rd, ot_rs, ot_rf, ot_rdf]
  simp only [cpy_wr]
  unfold takeM17
  rfl
def takeM1 (μ : ot_M) : ot_M := ot_uc (ot_uc (ot_uc (ot_uc (ot_uc (ot_uc (ot_uc (ot_uc (ot_uc (ot_uc (ot_uc (ot_uc (ot_uc (ot_up (ot_up (ot_up (ot_up μ 1 11 (μ 17 11)) 1 12 (μ 17 12)) 1 13 (μ 17 13)) 12 4 (μ 28 4)) 13 (wr 400 (μ 13) (μ 29))) 14 (wr 16 (μ 14) (μ 30))) 15 (wr 16 (μ 15) (μ 31))) 2 (wr 24 (μ 2) (μ 18))) 3 (wr 24 (μ 3) (μ 19))) 4 (wr 256 (μ 4) (μ 20))) 5 (wr 64 (μ 5) (μ 21))) 6 (wr 3 (μ 6) (μ 22))) 7 (wr 360 (μ 7) (μ 23))) 8 (wr 3 (μ 8) (μ 24))) 9 (wr 20 (μ 9) (μ 25))) 10 (wr 20 (μ 10) (μ 26))) 11 (wr 64 (μ 11) (μ 27))
set_option maxRecDepth 100000 in
set_option maxHeartbeats 1000000 in
theorem c_takeFrom1 (l : Launch) (g : ot_G) (ln : Nat) (ext : ot_L) (μ : ot_M) (hv : ∀ j, 0 ≤ j → j < 16 → μ 31 j = 0 ∨ μ 31 j = 1) : ot_C l g yX8_takeFrom cX8_takeFrom 2 none 3 0 0 [.inr 1, .inr 17] (LL ln ext) μ (ot_pv (fun L2 μ2 => L2 = LL ln ext ∧ μ2 = takeM1 μ)) := by
  refine ot_enter (by decide) (Nat.le_of_ble_eq_true rfl) ?_
  intro p e s m args below meth c X hr
  refine tt_aload_n X rfl dX8_takeFrom_0 ?_
  refine tt_aload_n X rfl dX8_takeFrom_1 ?_
  refine tt_geti X fX8_53 (k_17 _ _) (by decide) (Or.inl rfl) dX8_takeFrom_2 ?_
  refine tt_puti X fX8_53 kc_8 (k_1 _ _) (by decide) (fun q hq => by cases hq; rfl) rfl dX8_takeFrom_5 ?_
  refine tt_aload_n X rfl dX8_takeFrom_8 ?_
  refine tt_aload_n X rfl dX8_takeFrom_9 ?_
  refine tt_geti X fX8_57 (k_17 _ _) (by decide) (Or.inl rfl) dX8_takeFrom_10 ?_
  try simp (disch := decide) only [ot_rd, ot_rs, ot_rf, ot_ucd, ot_ucs]
  refine tt_puti X fX8_57 kc_8 (k_1 _ _) (by decide) (fun q hq => by cases hq; rfl) rfl dX8_takeFrom_13 ?_
  refine tt_aload_n X rfl dX8_takeFrom_16 ?_
  refine tt_aload_n X rfl dX8_takeFrom_17 ?_
  refine tt_geti X fX8_60 (k_17 _ _) (by decide) (Or.inl rfl) dX8_takeFrom_18 ?_
  try simp (disch := decide) only [ot_rd, ot_rs, ot_rf, ot_ucd, ot_ucs]
  refine tt_puti X fX8_60 kc_8 (k_1 _ _) (by decide) (fun q hq => by cases hq; rfl) rfl dX8_takeFrom_21 ?_
  refine tt_aload_n X rfl dX8_takeFrom_24 ?_
  refine tt_getr X fX8_45 (k_1 _ _) (by decide) ⟨nofun, nofun⟩ rfl dX8_takeFrom_25 ?_
  refine tt_aload_n X rfl dX8_takeFrom_28 ?_
  refine tt_getr X fX8_45 (k_17 _ _) (by decide) ⟨nofun, nofun⟩ rfl dX8_takeFrom_29 ?_
  refine tt_vv X rfl mX8_70 (c_lawTake12 l g ln ext _ (by simp (disch := decide) only [ot_ucd, ot_ucs, ot_rd, ot_rs, ot_rf, ot_rdf]; exact hv)) (k_12 _ _) ⟨_, rfl, rfl⟩ rfl rfl (Nat.le_of_ble_eq_true rfl) (by decide) (by decide) (by decide) dX8_takeFrom_32 (fun L32 μ32 hp => ?_)
  obtain ⟨rfl, rfl⟩ := hp
  refine tt_aload_n X rfl dX8_takeFrom_35 ?_
  refine tt_getr X fX8_9 (k_17 _ _) (by decide) ⟨nofun, nofun⟩ rfl dX8_takeFrom_36 ?_
  refine tt_iconst X dX8_takeFrom_39 ?_
  refine tt_aload_n X rfl dX8_takeFrom_40 ?_
  refine tt_getr X fX8_9 (k_1 _ _) (by decide) ⟨nofun, nofun⟩ rfl dX8_takeFrom_41 ?_
  refine tt_iconst X dX8_takeFrom_44 ?_
  refine tt_bipush X (by decide) dX8_takeFrom_45 ?_
  refine tt_copy X hr.2.2.2 (ot_mem 981 (by decide +kernel) (by decide +kernel)) (k_18 _ _) (k_2 _ _) (Or.inl rfl) (by omega) (by decide) (by decide) dX8_takeFrom_47 ?_
  refine tt_aload_n X rfl dX8_takeFrom_50 ?_
  refine tt_getr X fX8_15 (k_17 _ _) (by decide) ⟨nofun, nofun⟩ rfl dX8_takeFrom_51 ?_
  refine tt_iconst X dX8_takeFrom_54 ?_
  refine tt_aload_n X rfl dX8_takeFrom_55 ?_
  refine tt_getr X fX8_15 (k_1 _ _) (by decide) ⟨nofun, nofun⟩ rfl dX8_takeFrom_56 ?_
  refine tt_iconst X dX8_takeFrom_59 ?_
  refine tt_bipush X (by decide) dX8_takeFrom_60 ?_
  refine tt_copy X hr.2.2.2 (ot_mem 981 (by decide +kernel) (by decide +kernel)) (k_19 _ _) (k_3 _ _) (Or.inl rfl) (by omega) (by decide) (by decide) dX8_takeFrom_62 ?_
  refine tt_aload_n X rfl dX8_takeFrom_65 ?_
  refine tt_getr X fX8_18 (k_17 _ _) (by decide) ⟨nofun, nofun⟩ rfl dX8_takeFrom_66 ?_
  refine tt_iconst X dX8_takeFrom_69 ?_
  refine tt_aload_n X rfl dX8_takeFrom_70 ?_
  refine tt_getr X fX8_18 (k_1 _ _) (by decide) ⟨nofun, nofun⟩ rfl dX8_takeFrom_71 ?_
  refine tt_iconst X dX8_takeFrom_74 ?_
  refine tt_sipush X (by decide) dX8_takeFrom_75 ?_
  refine tt_copy X hr.2.2.2 (ot_mem 981 (by decide +kernel) (by decide +kernel)) (k_20 _ _) (k_4 _ _) (Or.inl rfl) (by omega) (by decide) (by decide) dX8_takeFrom_78 ?_
  refine tt_aload_n X rfl dX8_takeFrom_81 ?_
  refine tt_getr X fX8_21 (k_17 _ _) (by decide) ⟨nofun, nofun⟩ rfl dX8_takeFrom_82 ?_
  refine tt_iconst X dX8_takeFrom_85 ?_
  refine tt_aload_n X rfl dX8_takeFrom_86 ?_
  refine tt_getr X fX8_21 (k_1 _ _) (by decide) ⟨nofun, nofun⟩ rfl dX8_takeFrom_87 ?_
  refine tt_iconst X dX8_takeFrom_90 ?_
  refine tt_bipush X (by decide) dX8_takeFrom_91 ?_
  refine tt_copy X hr.2.2.2 (ot_mem 981 (by decide +kernel) (by decide +kernel)) (k_21 _ _) (k_5 _ _) (Or.inl rfl) (by omega) (by decide) (by decide) dX8_takeFrom_93 ?_
  refine tt_aload_n X rfl dX8_takeFrom_96 ?_
  refine tt_getr X fX8_24 (k_17 _ _) (by decide) ⟨nofun, nofun⟩ rfl dX8_takeFrom_97 ?_
  refine tt_iconst X dX8_takeFrom_100 ?_
  refine tt_aload_n X rfl dX8_takeFrom_101 ?_
  refine tt_getr X fX8_24 (k_1 _ _) (by decide) ⟨nofun, nofun⟩ rfl dX8_takeFrom_102 ?_
  refine tt_iconst X dX8_takeFrom_105 ?_
  refine tt_iconst X dX8_takeFrom_106 ?_
  refine tt_copy X hr.2.2.2 (ot_mem 981 (by decide +kernel) (by decide +kernel)) (k_22 _ _) (k_6 _ _) (Or.inl rfl) (by omega) (by decide) (by decide) dX8_takeFrom_107 ?_
  refine tt_aload_n X rfl dX8_takeFrom_110 ?_
  refine tt_getr X fX8_27 (k_17 _ _) (by decide) ⟨nofun, nofun⟩ rfl dX8_takeFrom_111 ?_
  refine tt_iconst X dX8_takeFrom_114 ?_
  refine tt_aload_n X rfl dX8_takeFrom_115 ?_
  refine tt_getr X fX8_27 (k_1 _ _) (by decide) ⟨nofun, nofun⟩ rfl dX8_takeFrom_116 ?_
  refine tt_iconst X dX8_takeFrom_119 ?_
  refine tt_sipush X (by decide) dX8_takeFrom_120 ?_
  refine tt_copy X hr.2.2.2 (ot_mem 981 (by decide +kernel) (by decide +kernel)) (k_23 _ _) (k_7 _ _) (Or.inl rfl) (by omega) (by decide) (by decide) dX8_takeFrom_123 ?_
  refine tt_aload_n X rfl dX8_takeFrom_126 ?_
  refine tt_getr X fX8_30 (k_17 _ _) (by decide) ⟨nofun, nofun⟩ rfl dX8_takeFrom_127 ?_
  refine tt_iconst X dX8_takeFrom_130 ?_
  refine tt_aload_n X rfl dX8_takeFrom_131 ?_
  refine tt_getr X fX8_30 (k_1 _ _) (by decide) ⟨nofun, nofun⟩ rfl dX8_takeFrom_132 ?_
  refine tt_iconst X dX8_takeFrom_135 ?_
  refine tt_iconst X dX8_takeFrom_136 ?_
  refine tt_copy X hr.2.2.2 (ot_mem 981 (by decide +kernel) (by decide +kernel)) (k_24 _ _) (k_8 _ _) (Or.inl rfl) (by omega) (by decide) (by decide) dX8_takeFrom_137 ?_
  refine tt_aload_n X rfl dX8_takeFrom_140 ?_
  refine tt_getr X fX8_33 (k_17 _ _) (by decide) ⟨nofun, nofun⟩ rfl dX8_takeFrom_141 ?_
  refine tt_iconst X dX8_takeFrom_144 ?_
  refine tt_aload_n X rfl dX8_takeFrom_145 ?_
  refine tt_getr X fX8_33 (k_1 _ _) (by decide) ⟨nofun, nofun⟩ rfl dX8_takeFrom_146 ?_
  refine tt_iconst X dX8_takeFrom_149 ?_
  refine tt_bipush X (by decide) dX8_takeFrom_150 ?_
  refine tt_copy X hr.2.2.2 (ot_mem 981 (by decide +kernel) (by decide +kernel)) (k_25 _ _) (k_9 _ _) (Or.inl rfl) (by omega) (by decide) (by decide) dX8_takeFrom_152 ?_
  refine tt_aload_n X rfl dX8_takeFrom_155 ?_
  refine tt_getr X fX8_36 (k_17 _ _) (by decide) ⟨nofun, nofun⟩ rfl dX8_takeFrom_156 ?_
  refine tt_iconst X dX8_takeFrom_159 ?_
  refine tt_aload_n X rfl dX8_takeFrom_160 ?_
  refine tt_getr X fX8_36 (k_1 _ _) (by decide) ⟨nofun, nofun⟩ rfl dX8_takeFrom_161 ?_
  refine tt_iconst X dX8_takeFrom_164 ?_
  refine tt_bipush X (by decide) dX8_takeFrom_165 ?_
  refine tt_copy X hr.2.2.2 (ot_mem 981 (by decide +kernel) (by decide +kernel)) (k_26 _ _) (k_10 _ _) (Or.inl rfl) (by omega) (by decide) (by decide) dX8_takeFrom_167 ?_
  refine tt_aload_n X rfl dX8_takeFrom_170 ?_
  refine tt_getr X fX8_39 (k_17 _ _) (by decide) ⟨nofun, nofun⟩ rfl dX8_takeFrom_171 ?_
  refine tt_iconst X dX8_takeFrom_174 ?_
  refine tt_aload_n X rfl dX8_takeFrom_175 ?_
  refine tt_getr X fX8_39 (k_1 _ _) (by decide) ⟨nofun, nofun⟩ rfl dX8_takeFrom_176 ?_
  refine tt_iconst X dX8_takeFrom_179 ?_
  refine tt_bipush X (by decide) dX8_takeFrom_180 ?_
  refine tt_copy X hr.2.2.2 (ot_mem 981 (by decide +kernel) (by decide +kernel)) (k_27 _ _) (k_11 _ _) (Or.inl rfl) (by omega) (by decide) (by decide) dX8_takeFrom_182 ?_
  refine tt_vret X ⟨hr.1, hr.2.1⟩ (by decide) (by decide) dX8_takeFrom_185 ?_
  refine ⟨rfl, ?_⟩
  try simp (disch := decide) only [ot_ucd, ot_ucs, ot_rd, ot_rs, ot_rf, ot_rdf]
  simp only [cpy_wr]
  unfold takeM1
  rfl
set_option maxRecDepth 100000 in
set_option maxHeartbeats 1000000 in
theorem c_image (l : Launch) (g : ot_G) (ln : Nat) (ext : ot_L) (μ : ot_M) (t : Int) (ht : t = 0 ∨ t = 1) (hI : μ 0 2 = 0 ∨ μ 0 2 = 1) (hv : ∀ j, 0 ≤ j → j < 16 → μ 15 j = 0 ∨ μ 15 j = 1) (hk : μ 0 2 = 1 → (∀ j, 0 ≤ j → j < 16 → μ 31 j = 0 ∨ μ 31 j = 1) ∧ gPin ((takeM1 μ) 1 11) ((takeM1 μ) 1 12) ((takeM1 μ) 2) ((takeM1 μ) 3) ∧ gWnd ((takeM1 μ) 1 12) ((takeM1 μ) 8) ((takeM1 μ) 7)) : ot_C l g yX9_image cX9_image 2 (some .boolean) 7 0 0 [.inr 0, .inl t] (LL ln ext) μ (ot_pi (fun r L2 μ2 => L2 = LL ln ext ∧ ((t = 1 ∧ r = 1 ∧ μ2 = ot_up (takeM17 μ) 0 2 1) ∨ (t = 0 ∧ μ 0 2 = 0 ∧ r = 0 ∧ μ2 = μ) ∨ (t = 0 ∧ μ 0 2 = 1 ∧ r = 1 ∧ ∃ f z, gChd ((takeM1 μ) 1 11) ((takeM1 μ) 1 12) ((takeM1 μ) 2) ((takeM1 μ) 3) f z ∧ μ2 = ot_up (ot_uc (ot_uc (ot_uc (ot_uc (takeM1 μ) 38 f) 39 z) 34 (wr 64 ((takeM1 μ) 34) (dk ((takeM1 μ) 1 11) ((takeM1 μ) 2) ((takeM1 μ) 3) ((takeM1 μ) 8) ((takeM1 μ) 7) ((takeM1 μ) 6)))) 35 (wr 276 ((takeM1 μ) 35) (usC ((takeM1 μ) 8) ((takeM1 μ) 7)))) 0 14 0)))) := by
  refine ot_enter (by decide) (Nat.le_of_ble_eq_true rfl) ?_
  intro p e s m args below meth c X hr
  refine tt_iload_n X rfl dX9_image_0 ?_
  refine tt_if_eq X 22 (by omega) dX9_image_1 (by decide) (fun b1 => ?_) (fun b1 => ?_)
  · refine tt_aload_n X rfl dX9_image_22 ?_
    refine tt_geti X fX9_297 (k_0 _ _) (by decide) (Or.inr rfl) dX9_image_23 ?_
    refine tt_if_ne X 31 (by omega) dX9_image_26 (by decide) (fun b26 => ?_) (fun b26 => ?_)
    · refine tt_aload_n X rfl dX9_image_31 ?_
      refine tt_getr X fX9_12 (k_0 _ _) (by decide) ⟨nofun, nofun⟩ rfl dX9_image_32 ?_
      refine tt_aload_n X rfl dX9_image_35 ?_
      refine tt_getr X fX9_16 (k_0 _ _) (by decide) ⟨nofun, nofun⟩ rfl dX9_image_36 ?_
      refine tt_vv X rfl mX9_295 (c_takeFrom1 l g ln ext _ (hk (by omega)).1) (k_1 _ _) ⟨_, rfl, rfl⟩ rfl rfl (Nat.le_of_ble_eq_true rfl) (by decide) (by decide) (by decide) dX9_image_39 (fun L39 μ39 hp => ?_)
      obtain ⟨rfl, rfl⟩ := hp
      refine tt_aload_n X rfl dX9_image_42 ?_
      refine tt_getr X fX9_24 (k_0 _ _) (by decide) ⟨nofun, nofun⟩ rfl dX9_image_43 ?_
      refine tt_vv X rfl mX9_86 (c_renew l g ln ext _ (hk (by omega)).2.1 (hk (by omega)).2.2) (k_33 _ _) ⟨_, rfl, rfl⟩ rfl rfl (Nat.le_of_ble_eq_true rfl) (by decide) (by decide) (by decide) dX9_image_46 (fun L46 μ46 hp => ?_)
      obtain ⟨rfl, f, z, hC, rfl⟩ := hp
      refine tt_aload_n X rfl dX9_image_49 ?_
      refine tt_iconst X dX9_image_50 ?_
      refine tt_puti X fX9_89 kc_9 (k_0 _ _) (by decide) (fun q hq => by cases hq; rfl) rfl dX9_image_51 ?_
      refine tt_iconst X dX9_image_54 ?_
      refine tt_zret X ⟨hr.1, hr.2.1⟩ (by omega) (by decide) (by decide) dX9_image_55 ?_
      exact ⟨rfl, Or.inr (Or.inr ⟨by omega, by omega, rfl, f, z, hC, rfl⟩)⟩
    · refine tt_iconst X dX9_image_29 ?_
      refine tt_zret X ⟨hr.1, hr.2.1⟩ (by omega) (by decide) (by decide) dX9_image_30 ?_
      exact ⟨rfl, Or.inr (Or.inl ⟨by omega, by omega, rfl, rfl⟩)⟩
  · refine tt_aload_n X rfl dX9_image_4 ?_
    refine tt_getr X fX9_16 (k_0 _ _) (by decide) ⟨nofun, nofun⟩ rfl dX9_image_5 ?_
    refine tt_aload_n X rfl dX9_image_8 ?_
    refine tt_getr X fX9_12 (k_0 _ _) (by decide) ⟨nofun, nofun⟩ rfl dX9_image_9 ?_
    refine tt_vv X rfl mX9_295 (c_takeFrom17 l g ln ext _ hv) (k_17 _ _) ⟨_, rfl, rfl⟩ rfl rfl (Nat.le_of_ble_eq_true rfl) (by decide) (by decide) (by decide) dX9_image_12 (fun L12 μ12 hp => ?_)
    obtain ⟨rfl, rfl⟩ := hp
    refine tt_aload_n X rfl dX9_image_15 ?_
    refine tt_iconst X dX9_image_16 ?_
    refine tt_putz X fX9_297 kc_9 (k_0 _ _) (by decide) (fun q hq => by cases hq; rfl) rfl (by omega) dX9_image_17 ?_
    refine tt_iconst X dX9_image_20 ?_
    refine tt_zret X ⟨hr.1, hr.2.1⟩ (by omega) (by decide) (by decide) dX9_image_21 ?_
    exact ⟨rfl, Or.inl ⟨by omega, rfl, rfl⟩⟩

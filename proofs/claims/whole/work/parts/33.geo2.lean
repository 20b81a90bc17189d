set_option maxRecDepth 100000 in
set_option maxHeartbeats 4000000 in
theorem q_findsSamples (l : Launch) (g : ot_G) (ln : Nat) (ext : ot_L) (μ : ot_M) (a b : Int) (hG : gPin (μ 60 1) (μ 60 2) (μ 61) (μ 62)) (ha : 0 ≤ a ∧ a < μ 60 2) (hb : 0 ≤ b ∧ b < μ 60 2) (hab : a ≠ b)  : ot_C l g yX10_findsSamples cX10_findsSamples 9 none 2 0 0 [.inr 60, .inl a, .inl b] (LL ln ext) μ (ot_pv (fun L2 μ2 => L2 = LL ln ext ∧ μ2 = ot_uc μ 82 (wr 64 (μ 82) (smp (μ 60 1) (μ 61) (μ 62) a b)))) := by
  refine ot_enter (by decide) (Nat.le_of_ble_eq_true rfl) ?_
  intro p e s m args below meth c X hr
  have h1 := gPin_at hG (a := min a b) (by omega) (by omega)
  have h2 := gPin_at hG (a := max a b) (by omega) (by omega)
  have hS := hG.1
  have hNn := hG.2.1
  have hLn := lenP_pos hG (a := min a b) (b := max a b) (by omega) (by omega) (by omega) (by omega) (by omega)
  refine tt_iconst X dX10_findsSamples_0 ?_
  refine tt_istore_n X dX10_findsSamples_1 (by decide) ?_
  refine tt_mem (μ' := ot_uc μ 82 (wr 0 (μ 82) (fun _ => 0))) (by rw [wr_zero, ot_uc_self]) ?_
  refine tt_loc [(0, _), (1, _), (2, _), (3, _)] ⟨rfl, rfl, rfl, rfl, trivial⟩ ?_
  refine tt_loop (α := Int) (fun k => (64 - k).toNat) (fun k => 0 ≤ k ∧ k ≤ 64) (fun k => ot_uc μ 82 (wr k (μ 82) (fun _ => 0))) (fun k => [(0, .inr 60), (1, .inl a), (2, .inl b), (3, .inl k)]) 0 (by omega) ?_
  intro k hI ih
  try dsimp only at hI ih ⊢
  refine tt_iload_n X rfl dX10_findsSamples_2 ?_
  refine tt_bipush X (by decide) dX10_findsSamples_3 ?_
  refine tt_icmp_ge X 21 (by first | omega | (simp (disch := decide) only [ot_rd, ot_rs, ot_rf, ot_ucd, ot_ucs]; omega)) dX10_findsSamples_5 (by decide) (fun b5 => ?_) (fun b5 => ?_)
  · try simp only [ot_rd]
    refine tt_join1 31 [.inl (min a b)] ?_ (fun J31 => ?_)
    · refine tt_istore_n X dX10_findsSamples_31 (by decide) ?_
      refine tt_join1 42 [.inl (max a b)] ?_ (fun J42 => ?_)
      · refine tt_istore X dX10_findsSamples_42 (by decide) ?_
        refine tt_bipush X (by decide) dX10_findsSamples_44 ?_
        refine tt_aload_n X rfl dX10_findsSamples_46 ?_
        refine tt_iload_n X rfl dX10_findsSamples_47 ?_
        refine tt_iload X rfl dX10_findsSamples_48 ?_
        refine tt_vi X rfl mX10_230 (q_lengthOf l g ln ext _ _ _ (by omega) (by omega) (by simp (disch := decide) only [ot_ucd]; omega)) (k_60 _ _) ⟨_, rfl, rfl⟩ rfl rfl (Nat.le_of_ble_eq_true rfl) (by decide) (by decide) (by decide) dX10_findsSamples_50 (fun z50 L50 μ50 hp => ?_)
        obtain ⟨rfl, e50, hz50⟩ := hp
        replace e50 := e50.symm
        subst e50
        simp (disch := decide) only [ot_ucd] at hz50
        try simp (disch := decide) only [ot_rd, ot_rs, ot_rf, ot_ucd, ot_ucs] at hz50
        refine tt_imul X dX10_findsSamples_53 ?_
        refine tt_top (show 8 * z50 = 8 * lenP (μ 61 (min a b)) (μ 62 (min a b)) (μ 61 (max a b)) (μ 62 (max a b)) by rw [hz50]; rfl) ?_
        refine tt_istore X dX10_findsSamples_54 (by decide) ?_
        refine tt_iconst X dX10_findsSamples_56 ?_
        refine tt_istore X dX10_findsSamples_57 (by decide) ?_
        refine tt_mem (μ' := ot_uc μ 82 (wr 64 (μ 82) (fun k => sumN (fun j => if sqm (μ 60 1) (μ 61 (min a b)) (μ 62 (min a b)) (μ 61 (max a b)) (μ 62 (max a b)) j = k then 1 else 0) ((0 : Int)).toNat))) (by rw [show k = 64 by omega]; rfl) ?_
        refine tt_loc [(0, _), (3, _), (4, _), (5, _), (6, _)] ⟨rfl, rfl, rfl, rfl, rfl, trivial⟩ ?_
        refine tt_loop (α := Int) (fun i => (8 * lenP (μ 61 (min a b)) (μ 62 (min a b)) (μ 61 (max a b)) (μ 62 (max a b)) - i).toNat) (fun i => 0 ≤ i ∧ i ≤ 8 * lenP (μ 61 (min a b)) (μ 62 (min a b)) (μ 61 (max a b)) (μ 62 (max a b))) (fun i => ot_uc μ 82 (wr 64 (μ 82) (fun k => sumN (fun j => if sqm (μ 60 1) (μ 61 (min a b)) (μ 62 (min a b)) (μ 61 (max a b)) (μ 62 (max a b)) j = k then 1 else 0) (i).toNat))) (fun i => [(0, .inr 60), (3, .inl (min a b)), (4, .inl (max a b)), (5, .inl (8 * lenP (μ 61 (min a b)) (μ 62 (min a b)) (μ 61 (max a b)) (μ 62 (max a b)))), (6, .inl i)]) 0 (by omega) ?_
        intro i hI ih
        try dsimp only at hI ih ⊢
        refine tt_iload X rfl dX10_findsSamples_59 ?_
        refine tt_iload X rfl dX10_findsSamples_61 ?_
        refine tt_icmp_ge X 186 (by first | omega | (simp (disch := decide) only [ot_rd, ot_rs, ot_rf, ot_ucd, ot_ucs]; omega)) dX10_findsSamples_63 (by decide) (fun b63 => ?_) (fun b63 => ?_)
        · refine tt_vret X ⟨hr.1, hr.2.1⟩ (by decide) (by decide) dX10_findsSamples_186 ?_
          refine ⟨rfl, ?_⟩
          rw [show i = 8 * lenP (μ 61 (min a b)) (μ 62 (min a b)) (μ 61 (max a b)) (μ 62 (max a b)) by omega]
          rfl
        · have hn1 := mdl_num h1.2.1 h2.2.1 (N := 8 * lenP (μ 61 (min a b)) (μ 62 (min a b)) (μ 61 (max a b)) (μ 62 (max a b))) (i := i) (by omega)
          have hn2 := mdl_num h1.2.2 h2.2.2 (N := 8 * lenP (μ 61 (min a b)) (μ 62 (min a b)) (μ 61 (max a b)) (μ 62 (max a b))) (i := i) (by omega)
          have hn3 : μ 60 1 * (2 * (8 * lenP (μ 61 (min a b)) (μ 62 (min a b)) (μ 61 (max a b)) (μ 62 (max a b)))) ≤ 8 * (2 * 64) := Int.mul_le_mul hS.2 (by omega) (by omega) (by omega)
          have hn4 := sqm_in (by omega) h1.2.1 h1.2.2 h2.2.1 h2.2.2 (i := i) (by omega)
          refine tt_aload_n X rfl dX10_findsSamples_66 ?_
          refine tt_iconst X dX10_findsSamples_67 ?_
          refine tt_iload X rfl dX10_findsSamples_68 ?_
          refine tt_imul X dX10_findsSamples_70 ?_
          refine tt_aload_n X rfl dX10_findsSamples_71 ?_
          refine tt_getr X fX10_13 (k_60 _ _) (by decide) ⟨nofun, nofun⟩ rfl dX10_findsSamples_72 ?_
          refine tt_iload_n X rfl dX10_findsSamples_75 ?_
          refine tt_iaload X (k_61 _ _) (by first | omega | (simp (disch := decide) only [ot_rd, ot_rs, ot_rf, ot_ucd, ot_ucs]; omega)) dX10_findsSamples_76 ?_
          try simp (disch := decide) only [ot_rd, ot_rs, ot_rf, ot_ucd, ot_ucs]
          try simp (disch := decide) only [ot_ucd, ot_ucs]
          refine tt_imul X dX10_findsSamples_77 ?_
          refine tt_aload_n X rfl dX10_findsSamples_78 ?_
          refine tt_getr X fX10_13 (k_60 _ _) (by decide) ⟨nofun, nofun⟩ rfl dX10_findsSamples_79 ?_
          refine tt_iload X rfl dX10_findsSamples_82 ?_
          refine tt_iaload X (k_61 _ _) (by first | omega | (simp (disch := decide) only [ot_rd, ot_rs, ot_rf, ot_ucd, ot_ucs]; omega)) dX10_findsSamples_84 ?_
          try simp (disch := decide) only [ot_rd, ot_rs, ot_rf, ot_ucd, ot_ucs]
          try simp (disch := decide) only [ot_ucd, ot_ucs]
          refine tt_aload_n X rfl dX10_findsSamples_85 ?_
          refine tt_getr X fX10_13 (k_60 _ _) (by decide) ⟨nofun, nofun⟩ rfl dX10_findsSamples_86 ?_
          refine tt_iload_n X rfl dX10_findsSamples_89 ?_
          refine tt_iaload X (k_61 _ _) (by first | omega | (simp (disch := decide) only [ot_rd, ot_rs, ot_rf, ot_ucd, ot_ucs]; omega)) dX10_findsSamples_90 ?_
          try simp (disch := decide) only [ot_rd, ot_rs, ot_rf, ot_ucd, ot_ucs]
          try simp (disch := decide) only [ot_ucd, ot_ucs]
          refine tt_isub X dX10_findsSamples_91 ?_
          refine tt_iconst X dX10_findsSamples_92 ?_
          refine tt_iload X rfl dX10_findsSamples_93 ?_
          refine tt_imul X dX10_findsSamples_95 ?_
          refine tt_iconst X dX10_findsSamples_96 ?_
          refine tt_iadd X dX10_findsSamples_97 ?_
          refine tt_imul X dX10_findsSamples_98 ?_
          refine tt_iadd X dX10_findsSamples_99 ?_
          refine tt_iconst X dX10_findsSamples_100 ?_
          refine tt_iload X rfl dX10_findsSamples_101 ?_
          refine tt_imul X dX10_findsSamples_103 ?_
          skip
          refine tt_vi X rfl mX10_233 (q_inSquare l g ln ext _ _ _ (by rw [show 2 * (8 * lenP (μ 61 (min a b)) (μ 62 (min a b)) (μ 61 (max a b)) (μ 62 (max a b))) * μ 61 (min a b) = μ 61 (min a b) * 2 * (8 * lenP (μ 61 (min a b)) (μ 62 (min a b)) (μ 61 (max a b)) (μ 62 (max a b))) by grind]; omega) (by omega) (by simp (disch := decide) only [ot_ucd]; omega)) (k_60 _ _) ⟨_, rfl, rfl⟩ rfl rfl (Nat.le_of_ble_eq_true rfl) (by decide) (by decide) (by decide) dX10_findsSamples_104 (fun z104 L104 μ104 hp => ?_)
          obtain ⟨rfl, e104, hz104⟩ := hp
          replace e104 := e104.symm
          subst e104
          simp (disch := decide) only [ot_ucd] at hz104
          try simp (disch := decide) only [ot_rd, ot_rs, ot_rf, ot_ucd, ot_ucs] at hz104
          refine tt_istore X dX10_findsSamples_107 (by decide) ?_
          have hx : z104 = mdl (μ 60 1) (μ 61 (min a b)) (μ 61 (max a b)) (8 * lenP (μ 61 (min a b)) (μ 62 (min a b)) (μ 61 (max a b)) (μ 62 (max a b))) i := by rw [hz104]; unfold mdl; congr 2; grind
          refine tt_aload_n X rfl dX10_findsSamples_109 ?_
          refine tt_iconst X dX10_findsSamples_110 ?_
          refine tt_iload X rfl dX10_findsSamples_111 ?_
          refine tt_imul X dX10_findsSamples_113 ?_
          refine tt_aload_n X rfl dX10_findsSamples_114 ?_
          refine tt_getr X fX10_17 (k_60 _ _) (by decide) ⟨nofun, nofun⟩ rfl dX10_findsSamples_115 ?_
          refine tt_iload_n X rfl dX10_findsSamples_118 ?_
          refine tt_iaload X (k_62 _ _) (by first | omega | (simp (disch := decide) only [ot_rd, ot_rs, ot_rf, ot_ucd, ot_ucs]; omega)) dX10_findsSamples_119 ?_
          try simp (disch := decide) only [ot_rd, ot_rs, ot_rf, ot_ucd, ot_ucs]
          try simp (disch := decide) only [ot_ucd, ot_ucs]
          refine tt_imul X dX10_findsSamples_120 ?_
          refine tt_aload_n X rfl dX10_findsSamples_121 ?_
          refine tt_getr X fX10_17 (k_60 _ _) (by decide) ⟨nofun, nofun⟩ rfl dX10_findsSamples_122 ?_
          refine tt_iload X rfl dX10_findsSamples_125 ?_
          refine tt_iaload X (k_62 _ _) (by first | omega | (simp (disch := decide) only [ot_rd, ot_rs, ot_rf, ot_ucd, ot_ucs]; omega)) dX10_findsSamples_127 ?_
          try simp (disch := decide) only [ot_rd, ot_rs, ot_rf, ot_ucd, ot_ucs]
          try simp (disch := decide) only [ot_ucd, ot_ucs]
          refine tt_aload_n X rfl dX10_findsSamples_128 ?_
          refine tt_getr X fX10_17 (k_60 _ _) (by decide) ⟨nofun, nofun⟩ rfl dX10_findsSamples_129 ?_
          refine tt_iload_n X rfl dX10_findsSamples_132 ?_
          refine tt_iaload X (k_62 _ _) (by first | omega | (simp (disch := decide) only [ot_rd, ot_rs, ot_rf, ot_ucd, ot_ucs]; omega)) dX10_findsSamples_133 ?_
          try simp (disch := decide) only [ot_rd, ot_rs, ot_rf, ot_ucd, ot_ucs]
          try simp (disch := decide) only [ot_ucd, ot_ucs]
          refine tt_isub X dX10_findsSamples_134 ?_
          refine tt_iconst X dX10_findsSamples_135 ?_
          refine tt_iload X rfl dX10_findsSamples_136 ?_
          refine tt_imul X dX10_findsSamples_138 ?_
          refine tt_iconst X dX10_findsSamples_139 ?_
          refine tt_iadd X dX10_findsSamples_140 ?_
          refine tt_imul X dX10_findsSamples_141 ?_
          refine tt_iadd X dX10_findsSamples_142 ?_
          refine tt_iconst X dX10_findsSamples_143 ?_
          refine tt_iload X rfl dX10_findsSamples_144 ?_
          refine tt_imul X dX10_findsSamples_146 ?_
          refine tt_vi X rfl mX10_233 (q_inSquare l g ln ext _ _ _ (by rw [show 2 * (8 * lenP (μ 61 (min a b)) (μ 62 (min a b)) (μ 61 (max a b)) (μ 62 (max a b))) * μ 62 (min a b) = μ 62 (min a b) * 2 * (8 * lenP (μ 61 (min a b)) (μ 62 (min a b)) (μ 61 (max a b)) (μ 62 (max a b))) by grind]; omega) (by omega) (by simp (disch := decide) only [ot_ucd]; omega)) (k_60 _ _) ⟨_, rfl, rfl⟩ rfl rfl (Nat.le_of_ble_eq_true rfl) (by decide) (by decide) (by decide) dX10_findsSamples_147 (fun z147 L147 μ147 hp => ?_)
          obtain ⟨rfl, e147, hz147⟩ := hp
          replace e147 := e147.symm
          subst e147
          simp (disch := decide) only [ot_ucd] at hz147
          try simp (disch := decide) only [ot_rd, ot_rs, ot_rf, ot_ucd, ot_ucs] at hz147
          refine tt_istore X dX10_findsSamples_150 (by decide) ?_
          have hy : z147 = mdl (μ 60 1) (μ 62 (min a b)) (μ 62 (max a b)) (8 * lenP (μ 61 (min a b)) (μ 62 (min a b)) (μ 61 (max a b)) (μ 62 (max a b))) i := by rw [hz147]; unfold mdl; congr 2; grind
          have hsq : sqm (μ 60 1) (μ 61 (min a b)) (μ 62 (min a b)) (μ 61 (max a b)) (μ 62 (max a b)) i = z104 + 8 * z147 := by unfold sqm; rw [hx, hy]
          refine tt_aload_n X rfl dX10_findsSamples_152 ?_
          refine tt_getr X fX10_80 (k_60 _ _) (by decide) ⟨nofun, nofun⟩ rfl dX10_findsSamples_153 ?_
          refine tt_bipush X (by decide) dX10_findsSamples_156 ?_
          refine tt_iload X rfl dX10_findsSamples_158 ?_
          refine tt_imul X dX10_findsSamples_160 ?_
          refine tt_iload X rfl dX10_findsSamples_161 ?_
          refine tt_iadd X dX10_findsSamples_163 ?_
          refine tt_aload_n X rfl dX10_findsSamples_164 ?_
          refine tt_getr X fX10_80 (k_60 _ _) (by decide) ⟨nofun, nofun⟩ rfl dX10_findsSamples_165 ?_
          refine tt_bipush X (by decide) dX10_findsSamples_168 ?_
          refine tt_iload X rfl dX10_findsSamples_170 ?_
          refine tt_imul X dX10_findsSamples_172 ?_
          refine tt_iload X rfl dX10_findsSamples_173 ?_
          refine tt_iadd X dX10_findsSamples_175 ?_
          refine tt_iaload X (k_82 _ _) (by first | omega | (simp (disch := decide) only [ot_rd, ot_rs, ot_rf, ot_ucd, ot_ucs]; omega)) dX10_findsSamples_176 ?_
          try simp (disch := decide) only [ot_rd, ot_rs, ot_rf, ot_ucd, ot_ucs]
          refine tt_iconst X dX10_findsSamples_177 ?_
          refine tt_iadd X dX10_findsSamples_178 ?_
          refine tt_iastore X (k_82 _ _) (by first | omega | (simp (disch := decide) only [ot_rd, ot_rs, ot_rf, ot_ucd, ot_ucs]; omega)) dX10_findsSamples_179 ?_
          refine tt_iinc X dX10_findsSamples_180 rfl (by decide) ?_
          refine tt_goto X 59 dX10_findsSamples_183 (by decide) ?_
          refine tt_loc [(0, _), (3, _), (4, _), (5, _), (6, _)] ⟨rfl, rfl, rfl, rfl, rfl, trivial⟩ ?_
          refine tt_mem (μ' := ot_uc μ 82 (wr 64 (μ 82) (fun k => sumN (fun j => if sqm (μ 60 1) (μ 61 (min a b)) (μ 62 (min a b)) (μ 61 (max a b)) (μ 62 (max a b)) j = k then 1 else 0) (i + 1).toNat))) ?_ ?_
          · rw [ot_uc_up]
            refine ot_uc_eq (fun j => ?_)
            by_cases hj : j = 8 * z147 + z104
            · rw [if_pos hj, hj, wr_in (by omega), wr_in (by omega), sumN_toNat _ hI.1, if_pos (by rw [hsq]; omega)]
            · rw [if_neg hj]
              by_cases h64 : 0 ≤ j ∧ j < 64
              · rw [wr_in h64, wr_in h64, sumN_toNat _ hI.1, if_neg (by rw [hsq]; omega)]; omega
              · rw [wr_out h64, wr_out h64]
          exact ih (i + 1) (by omega) (by omega)
      · refine tt_iload_n X rfl dX10_findsSamples_32 ?_
        refine tt_iload_n X rfl dX10_findsSamples_33 ?_
        refine tt_icmp_ge X 41 (by first | omega | (simp (disch := decide) only [ot_rd, ot_rs, ot_rf, ot_ucd, ot_ucs]; omega)) dX10_findsSamples_34 (by decide) (fun b34 => ?_) (fun b34 => ?_)
        · refine tt_iload_n X rfl dX10_findsSamples_41 ?_
          refine tt_top (show _ = max a b by omega) ?_
          exact J42
        · refine tt_iload_n X rfl dX10_findsSamples_37 ?_
          refine tt_goto X 42 dX10_findsSamples_38 (by decide) ?_
          refine tt_top (show _ = max a b by omega) ?_
          exact J42
    · try simp only [ot_rd]
      refine tt_iload_n X rfl dX10_findsSamples_21 ?_
      refine tt_iload_n X rfl dX10_findsSamples_22 ?_
      refine tt_icmp_ge X 30 (by first | omega | (simp (disch := decide) only [ot_rd, ot_rs, ot_rf, ot_ucd, ot_ucs]; omega)) dX10_findsSamples_23 (by decide) (fun b23 => ?_) (fun b23 => ?_)
      · refine tt_iload_n X rfl dX10_findsSamples_30 ?_
        refine tt_top (show _ = min a b by omega) ?_
        exact J31
      · refine tt_iload_n X rfl dX10_findsSamples_26 ?_
        refine tt_goto X 31 dX10_findsSamples_27 (by decide) ?_
        refine tt_top (show _ = min a b by omega) ?_
        exact J31
  · refine tt_aload_n X rfl dX10_findsSamples_8 ?_
    refine tt_getr X fX10_80 (k_60 _ _) (by decide) ⟨nofun, nofun⟩ rfl dX10_findsSamples_9 ?_
    refine tt_iload_n X rfl dX10_findsSamples_12 ?_
    refine tt_iconst X dX10_findsSamples_13 ?_
    refine tt_iastore X (k_82 _ _) (by first | omega | (simp (disch := decide) only [ot_rd, ot_rs, ot_rf, ot_ucd, ot_ucs]; omega)) dX10_findsSamples_14 ?_
    refine tt_iinc X dX10_findsSamples_15 rfl (by decide) ?_
    refine tt_goto X 2 dX10_findsSamples_18 (by decide) ?_
    refine tt_loc [(0, _), (1, _), (2, _), (3, _)] ⟨rfl, rfl, rfl, rfl, trivial⟩ ?_
    refine tt_mem (μ' := ot_uc μ 82 (wr (k + 1) (μ 82) (fun _ => 0))) (ot_uc_wr hI.1 rfl) ?_
    exact ih (k + 1) (by omega) (by omega)

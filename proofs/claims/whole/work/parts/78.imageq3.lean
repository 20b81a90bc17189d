set_option maxRecDepth 100000 in
set_option maxHeartbeats 1000000 in
theorem q_imageT (l : Launch) (g : ot_G) (ln : Nat) (ext : ot_L) (μ : ot_M) (h0 : μ 60 0 = 0)  : ot_C l g yX10_image cX10_image 3 (some .boolean) 2 0 0 [.inr 60, .inl 1] (LL ln ext) μ (ot_pi (fun r L2 μ2 => L2 = LL ln ext ∧ r = 1 ∧ tkP μ μ2 1690)) := by
  refine ot_enter (by decide) (Nat.le_of_ble_eq_true rfl) ?_
  intro p e s m args below meth c X hr
  refine tt_aload_n X rfl dX10_image_0 ?_
  refine tt_iconst X dX10_image_1 ?_
  refine tt_puti X fX10_98 kc_10 (k_60 _ _) (by decide) (fun q hq => by cases hq; rfl) rfl dX10_image_2 ?_
  refine tt_mem (ot_nop h0) ?_
  refine tt_iload_n X rfl dX10_image_5 ?_
  refine tt_if_ne X 18 (by omega) dX10_image_6 (by decide) (fun b6 => ?_) (fun b6 => ?_)
  · refine tt_aload_n X rfl dX10_image_18 ?_
    refine tt_iload_n X rfl dX10_image_19 ?_
    refine tt_putz X fX10_326 kc_10 (k_60 _ _) (by decide) (fun q hq => by cases hq; rfl) rfl (by omega) dX10_image_20 ?_
    refine tt_aload_n X rfl dX10_image_23 ?_
    refine tt_iconst X dX10_image_24 ?_
    refine tt_putz X fX10_333 kc_10 (k_60 _ _) (by decide) (fun q hq => by cases hq; rfl) rfl (by omega) dX10_image_25 ?_
    refine tt_aload_n X rfl dX10_image_28 ?_
    refine tt_iconst X dX10_image_29 ?_
    refine tt_puti X fX10_323 kc_10 (k_60 _ _) (by decide) (fun q hq => by cases hq; rfl) rfl dX10_image_30 ?_
    refine tt_gen (fun σ33 hσ33 => ?_)
    have hP : tkP μ σ33 0 := by
      rw [hσ33]
      refine ⟨fun k hk => ?_, fun j j1 j2 j3 => ?_, by simp (disch := decide) only [ot_rd, ot_rs, ot_rf, ot_ucd, ot_ucs, ot_rdf], by simp (disch := decide) only [ot_rd, ot_rs, ot_rf, ot_ucd, ot_ucs, ot_rdf], by simp (disch := decide) only [ot_rd, ot_rs, ot_rf, ot_ucd, ot_ucs, ot_rdf], fun j j1 j2 => by omega⟩
      · have hk2 : k ≠ 60 := fun w => hk (by rw [w]; decide)
        rw [ot_rdf hk2, ot_rdf hk2, ot_rdf hk2]
      · rw [ot_rf j3, ot_rf j2, ot_rf j1]
    have he := hP.1
    have he60 := hP.2.1
    refine tt_aload_n X rfl dX10_image_33 ?_
    refine tt_aload_n X rfl dX10_image_34 ?_
    refine tt_aload_n X rfl dX10_image_35 ?_
    refine tt_geti X fX10_7 (k_60 _ _) (by decide) (Or.inl rfl) dX10_image_36 ?_
    try simp (disch := decide) only [ot_rd, ot_rs, ot_rf, ot_ucd, ot_ucs, he, he60]
    refine tt_vi X rfl mX10_330 (q_keptT l g ln ext _ μ (0) _ (by omega) (tkP_K hP (by omega)) (by rw [tkP_cell (ν := μ) (show cellOf (0) = (60, 1) from rfl)])) (k_60 _ _) ⟨_, rfl, rfl⟩ rfl rfl (Nat.le_of_ble_eq_true rfl) (by decide) (by decide) (by decide) dX10_image_39 (fun z39 L39 μ39 hp => ?_)
    obtain ⟨rfl, hP, hz39⟩ := hp
    refine tt_puti X fX10_7 kc_10 (k_60 _ _) (by decide) (fun q hq => by cases hq; rfl) rfl dX10_image_42 ?_
    refine tt_gen (fun σ45 hσ45 => ?_)
    replace hP : tkP μ σ45 (0 + 1) := by rw [hσ45]; exact tkP_set hP (Or.inr (by decide)) hz39
    have he := hP.1
    have he60 := hP.2.1
    refine tt_aload_n X rfl dX10_image_45 ?_
    refine tt_aload_n X rfl dX10_image_46 ?_
    refine tt_aload_n X rfl dX10_image_47 ?_
    refine tt_geti X fX10_101 (k_60 _ _) (by decide) (Or.inl rfl) dX10_image_48 ?_
    try simp (disch := decide) only [ot_rd, ot_rs, ot_rf, ot_ucd, ot_ucs, he, he60]
    refine tt_vi X rfl mX10_330 (q_keptT l g ln ext _ μ (1) _ (by omega) (tkP_K hP (by omega)) (by rw [tkP_cell (ν := μ) (show cellOf (1) = (60, 2) from rfl)])) (k_60 _ _) ⟨_, rfl, rfl⟩ rfl rfl (Nat.le_of_ble_eq_true rfl) (by decide) (by decide) (by decide) dX10_image_51 (fun z51 L51 μ51 hp => ?_)
    obtain ⟨rfl, hP, hz51⟩ := hp
    refine tt_puti X fX10_101 kc_10 (k_60 _ _) (by decide) (fun q hq => by cases hq; rfl) rfl dX10_image_54 ?_
    refine tt_gen (fun σ57 hσ57 => ?_)
    replace hP : tkP μ σ57 (1 + 1) := by rw [hσ57]; exact tkP_set hP (Or.inr (by decide)) hz51
    have he := hP.1
    have he60 := hP.2.1
    refine tt_iconst X dX10_image_57 ?_
    refine tt_istore_n X dX10_image_58 (by decide) ?_
    refine tt_gen (fun ρ hρ => ?_)
    replace hP : tkP μ ρ (2) := by rw [hρ]; exact tkP_K hP (by omega)
    refine tt_loc [(0, _), (1, _), (2, _)] ⟨rfl, rfl, rfl, trivial⟩ ?_
    refine tt_loop (α := ot_M × Int) (fun ((σ, k)) => (24 - k).toNat) (fun ((σ, k)) => (0 ≤ k ∧ k ≤ 24) ∧ tkP μ σ (2 + 2 * k)) (fun ((σ, k)) => σ) (fun ((σ, k)) => [(0, .inr 60), (1, .inl 1), (2, .inl k)]) (ρ, 0) ⟨by show 0 ≤ (0 : Int) ∧ (0 : Int) ≤ 24; omega, tkP_K hP (by omega)⟩ ?_
    intro a hI ih
    obtain ⟨σ, k⟩ := a
    try dsimp only at hI ih ⊢
    replace hI : (0 ≤ k ∧ k ≤ 24) ∧ tkP μ σ (2 + 2 * k) := hI
    have hk := hI.1
    have hP := hI.2
    have he := hP.1
    have he60 := hP.2.1
    refine tt_iload_n X rfl dX10_image_59 ?_
    refine tt_bipush X (by decide) dX10_image_60 ?_
    refine tt_icmp_ge X 103 (by first | omega | (simp (disch := decide) only [ot_rd, ot_rs, ot_rf, ot_ucd, ot_ucs, he, he60]; omega)) dX10_image_62 (by decide) (fun b62 => ?_) (fun b62 => ?_)
    · refine tt_iconst X dX10_image_103 ?_
      refine tt_istore_n X dX10_image_104 (by decide) ?_
      refine tt_gen (fun ρ hρ => ?_)
      replace hP : tkP μ ρ (50) := by rw [hρ]; exact tkP_K hP (by omega)
      refine tt_loc [(0, _), (1, _), (2, _)] ⟨rfl, rfl, rfl, trivial⟩ ?_
      refine tt_loop (α := ot_M × Int) (fun ((σ, k)) => (3 - k).toNat) (fun ((σ, k)) => (0 ≤ k ∧ k ≤ 3) ∧ tkP μ σ (50 + 2 * k)) (fun ((σ, k)) => σ) (fun ((σ, k)) => [(0, .inr 60), (1, .inl 1), (2, .inl k)]) (ρ, 0) ⟨by show 0 ≤ (0 : Int) ∧ (0 : Int) ≤ 3; omega, tkP_K hP (by omega)⟩ ?_
      intro a hI ih
      obtain ⟨σ, k⟩ := a
      try dsimp only at hI ih ⊢
      replace hI : (0 ≤ k ∧ k ≤ 3) ∧ tkP μ σ (50 + 2 * k) := hI
      have hk := hI.1
      have hP := hI.2
      have he := hP.1
      have he60 := hP.2.1
      refine tt_iload_n X rfl dX10_image_105 ?_
      refine tt_iconst X dX10_image_106 ?_
      refine tt_icmp_ge X 148 (by first | omega | (simp (disch := decide) only [ot_rd, ot_rs, ot_rf, ot_ucd, ot_ucs, he, he60]; omega)) dX10_image_107 (by decide) (fun b107 => ?_) (fun b107 => ?_)
      · refine tt_iconst X dX10_image_148 ?_
        refine tt_istore_n X dX10_image_149 (by decide) ?_
        refine tt_gen (fun ρ hρ => ?_)
        replace hP : tkP μ ρ (56) := by rw [hρ]; exact tkP_K hP (by omega)
        refine tt_loc [(0, _), (1, _), (2, _)] ⟨rfl, rfl, rfl, trivial⟩ ?_
        refine tt_loop (α := ot_M × Int) (fun ((σ, k)) => (360 - k).toNat) (fun ((σ, k)) => (0 ≤ k ∧ k ≤ 360) ∧ tkP μ σ (56 + k)) (fun ((σ, k)) => σ) (fun ((σ, k)) => [(0, .inr 60), (1, .inl 1), (2, .inl k)]) (ρ, 0) ⟨by show 0 ≤ (0 : Int) ∧ (0 : Int) ≤ 360; omega, tkP_K hP (by omega)⟩ ?_
        intro a hI ih
        obtain ⟨σ, k⟩ := a
        try dsimp only at hI ih ⊢
        replace hI : (0 ≤ k ∧ k ≤ 360) ∧ tkP μ σ (56 + k) := hI
        have hk := hI.1
        have hP := hI.2
        have he := hP.1
        have he60 := hP.2.1
        refine tt_iload_n X rfl dX10_image_150 ?_
        refine tt_sipush X (by decide) dX10_image_151 ?_
        refine tt_icmp_ge X 179 (by first | omega | (simp (disch := decide) only [ot_rd, ot_rs, ot_rf, ot_ucd, ot_ucs, he, he60]; omega)) dX10_image_154 (by decide) (fun b154 => ?_) (fun b154 => ?_)
        · refine tt_iconst X dX10_image_179 ?_
          refine tt_istore_n X dX10_image_180 (by decide) ?_
          refine tt_gen (fun ρ hρ => ?_)
          replace hP : tkP μ ρ (416) := by rw [hρ]; exact tkP_K hP (by omega)
          refine tt_loc [(0, _), (1, _), (2, _)] ⟨rfl, rfl, rfl, trivial⟩ ?_
          refine tt_loop (α := ot_M × Int) (fun ((σ, k)) => (256 - k).toNat) (fun ((σ, k)) => (0 ≤ k ∧ k ≤ 256) ∧ tkP μ σ (416 + k)) (fun ((σ, k)) => σ) (fun ((σ, k)) => [(0, .inr 60), (1, .inl 1), (2, .inl k)]) (ρ, 0) ⟨by show 0 ≤ (0 : Int) ∧ (0 : Int) ≤ 256; omega, tkP_K hP (by omega)⟩ ?_
          intro a hI ih
          obtain ⟨σ, k⟩ := a
          try dsimp only at hI ih ⊢
          replace hI : (0 ≤ k ∧ k ≤ 256) ∧ tkP μ σ (416 + k) := hI
          have hk := hI.1
          have hP := hI.2
          have he := hP.1
          have he60 := hP.2.1
          refine tt_iload_n X rfl dX10_image_181 ?_
          refine tt_sipush X (by decide) dX10_image_182 ?_
          refine tt_icmp_ge X 210 (by first | omega | (simp (disch := decide) only [ot_rd, ot_rs, ot_rf, ot_ucd, ot_ucs, he, he60]; omega)) dX10_image_185 (by decide) (fun b185 => ?_) (fun b185 => ?_)
          · refine tt_iconst X dX10_image_210 ?_
            refine tt_istore_n X dX10_image_211 (by decide) ?_
            refine tt_gen (fun ρ hρ => ?_)
            replace hP : tkP μ ρ (672) := by rw [hρ]; exact tkP_K hP (by omega)
            refine tt_loc [(0, _), (1, _), (2, _)] ⟨rfl, rfl, rfl, trivial⟩ ?_
            refine tt_loop (α := ot_M × Int) (fun ((σ, k)) => (64 - k).toNat) (fun ((σ, k)) => (0 ≤ k ∧ k ≤ 64) ∧ tkP μ σ (672 + 2 * k)) (fun ((σ, k)) => σ) (fun ((σ, k)) => [(0, .inr 60), (1, .inl 1), (2, .inl k)]) (ρ, 0) ⟨by show 0 ≤ (0 : Int) ∧ (0 : Int) ≤ 64; omega, tkP_K hP (by omega)⟩ ?_
            intro a hI ih
            obtain ⟨σ, k⟩ := a
            try dsimp only at hI ih ⊢
            replace hI : (0 ≤ k ∧ k ≤ 64) ∧ tkP μ σ (672 + 2 * k) := hI
            have hk := hI.1
            have hP := hI.2
            have he := hP.1
            have he60 := hP.2.1
            refine tt_iload_n X rfl dX10_image_212 ?_
            refine tt_bipush X (by decide) dX10_image_213 ?_
            refine tt_icmp_ge X 256 (by first | omega | (simp (disch := decide) only [ot_rd, ot_rs, ot_rf, ot_ucd, ot_ucs, he, he60]; omega)) dX10_image_215 (by decide) (fun b215 => ?_) (fun b215 => ?_)
            · refine tt_aload_n X rfl dX10_image_256 ?_
              refine tt_aload_n X rfl dX10_image_257 ?_
              refine tt_aload_n X rfl dX10_image_258 ?_
              refine tt_geti X fX10_108 (k_60 _ _) (by decide) (Or.inl rfl) dX10_image_259 ?_
              try simp (disch := decide) only [ot_rd, ot_rs, ot_rf, ot_ucd, ot_ucs, he, he60]
              refine tt_vi X rfl mX10_330 (q_keptT l g ln ext _ μ (800) _ (by omega) (tkP_K hP (by omega)) (by rw [tkP_cell (ν := μ) (show cellOf (800) = (60, 11) from rfl)])) (k_60 _ _) ⟨_, rfl, rfl⟩ rfl rfl (Nat.le_of_ble_eq_true rfl) (by decide) (by decide) (by decide) dX10_image_262 (fun z262 L262 μ262 hp => ?_)
              obtain ⟨rfl, hP, hz262⟩ := hp
              refine tt_puti X fX10_108 kc_10 (k_60 _ _) (by decide) (fun q hq => by cases hq; rfl) rfl dX10_image_265 ?_
              refine tt_gen (fun σ268 hσ268 => ?_)
              replace hP : tkP μ σ268 (800 + 1) := by rw [hσ268]; exact tkP_set hP (Or.inr (by decide)) hz262
              have he := hP.1
              have he60 := hP.2.1
              refine tt_iconst X dX10_image_268 ?_
              refine tt_istore_n X dX10_image_269 (by decide) ?_
              refine tt_gen (fun ρ hρ => ?_)
              replace hP : tkP μ ρ (801) := by rw [hρ]; exact tkP_K hP (by omega)
              refine tt_loc [(0, _), (1, _), (2, _)] ⟨rfl, rfl, rfl, trivial⟩ ?_
              refine tt_loop (α := ot_M × Int) (fun ((σ, k)) => (20 - k).toNat) (fun ((σ, k)) => (0 ≤ k ∧ k ≤ 20) ∧ tkP μ σ (801 + 2 * k)) (fun ((σ, k)) => σ) (fun ((σ, k)) => [(0, .inr 60), (1, .inl 1), (2, .inl k)]) (ρ, 0) ⟨by show 0 ≤ (0 : Int) ∧ (0 : Int) ≤ 20; omega, tkP_K hP (by omega)⟩ ?_
              intro a hI ih
              obtain ⟨σ, k⟩ := a
              try dsimp only at hI ih ⊢
              replace hI : (0 ≤ k ∧ k ≤ 20) ∧ tkP μ σ (801 + 2 * k) := hI
              have hk := hI.1
              have hP := hI.2
              have he := hP.1
              have he60 := hP.2.1
              refine tt_iload_n X rfl dX10_image_270 ?_
              refine tt_bipush X (by decide) dX10_image_271 ?_
              refine tt_icmp_ge X 314 (by first | omega | (simp (disch := decide) only [ot_rd, ot_rs, ot_rf, ot_ucd, ot_ucs, he, he60]; omega)) dX10_image_273 (by decide) (fun b273 => ?_) (fun b273 => ?_)
              · refine tt_aload_n X rfl dX10_image_314 ?_
                refine tt_vv X rfl mX10_336 (q_keepsLawT l g ln ext _ μ (tkP_K hP (by omega))) (k_60 _ _) ⟨_, rfl, rfl⟩ rfl rfl (Nat.le_of_ble_eq_true rfl) (by decide) (by decide) (by decide) dX10_image_315 (fun L315 μ315 hp => ?_)
                obtain ⟨rfl, hP⟩ := hp
                have he := hP.1
                have he60 := hP.2.1
                refine tt_iload_n X rfl dX10_image_318 ?_
                refine tt_if_ne X 327 (by first | omega | (simp (disch := decide) only [ot_rd, ot_rs, ot_rf, ot_ucd, ot_ucs, he, he60, he, he60]; omega)) dX10_image_319 (by decide) (fun b319 => ?_) (fun b319 => ?_)
                · refine tt_iconst X dX10_image_327 ?_
                  refine tt_zret X ⟨hr.1, hr.2.1⟩ (by omega) (by decide) (by decide) dX10_image_328 ?_
                  exact ⟨rfl, rfl, hP⟩
                · exact absurd b319 (by decide)
              · refine tt_aload_n X rfl dX10_image_276 ?_
                refine tt_getr X fX10_38 (k_60 _ _) (by decide) ⟨nofun, nofun⟩ rfl dX10_image_277 ?_
                refine tt_iload_n X rfl dX10_image_280 ?_
                refine tt_aload_n X rfl dX10_image_281 ?_
                refine tt_aload_n X rfl dX10_image_282 ?_
                refine tt_getr X fX10_38 (k_60 _ _) (by decide) ⟨nofun, nofun⟩ rfl dX10_image_283 ?_
                refine tt_iload_n X rfl dX10_image_286 ?_
                refine tt_iaload X (k_69 _ _) (by first | omega | (simp (disch := decide) only [ot_rd, ot_rs, ot_rf, ot_ucd, ot_ucs, he, he60]; omega)) dX10_image_287 ?_
                try simp (disch := decide) only [ot_rd, ot_rs, ot_rf, ot_ucd, ot_ucs, he, he60]
                refine tt_vi X rfl mX10_330 (q_keptT l g ln ext _ μ (801 + 2 * k) _ (by omega) (tkP_K hP (by omega)) (by rw [tkP_cell (ν := μ) (show cellOf (801 + 2 * k) = (69, k) from cell_69 (by omega))])) (k_60 _ _) ⟨_, rfl, rfl⟩ rfl rfl (Nat.le_of_ble_eq_true rfl) (by decide) (by decide) (by decide) dX10_image_288 (fun z288 L288 μ288 hp => ?_)
                obtain ⟨rfl, hP, hz288⟩ := hp
                refine tt_iastore X (k_69 _ _) (by first | omega | (simp (disch := decide) only [ot_rd, ot_rs, ot_rf, ot_ucd, ot_ucs, he, he60]; omega)) dX10_image_291 ?_
                refine tt_gen (fun σ292 hσ292 => ?_)
                replace hP : tkP μ σ292 (801 + 2 * k + 1) := by rw [hσ292]; exact tkP_set hP (Or.inl (by decide)) hz288
                have he := hP.1
                have he60 := hP.2.1
                refine tt_aload_n X rfl dX10_image_292 ?_
                refine tt_getr X fX10_41 (k_60 _ _) (by decide) ⟨nofun, nofun⟩ rfl dX10_image_293 ?_
                refine tt_iload_n X rfl dX10_image_296 ?_
                refine tt_aload_n X rfl dX10_image_297 ?_
                refine tt_aload_n X rfl dX10_image_298 ?_
                refine tt_getr X fX10_41 (k_60 _ _) (by decide) ⟨nofun, nofun⟩ rfl dX10_image_299 ?_
                refine tt_iload_n X rfl dX10_image_302 ?_
                refine tt_iaload X (k_70 _ _) (by first | omega | (simp (disch := decide) only [ot_rd, ot_rs, ot_rf, ot_ucd, ot_ucs, he, he60]; omega)) dX10_image_303 ?_
                try simp (disch := decide) only [ot_rd, ot_rs, ot_rf, ot_ucd, ot_ucs, he, he60]
                refine tt_vi X rfl mX10_330 (q_keptT l g ln ext _ μ (801 + 2 * k + 1) _ (by omega) (tkP_K hP (by omega)) (by rw [tkP_cell (ν := μ) (show cellOf (801 + 2 * k + 1) = (70, k) from cell_70 (by omega))])) (k_60 _ _) ⟨_, rfl, rfl⟩ rfl rfl (Nat.le_of_ble_eq_true rfl) (by decide) (by decide) (by decide) dX10_image_304 (fun z304 L304 μ304 hp => ?_)
                obtain ⟨rfl, hP, hz304⟩ := hp
                refine tt_iastore X (k_70 _ _) (by first | omega | (simp (disch := decide) only [ot_rd, ot_rs, ot_rf, ot_ucd, ot_ucs, he, he60]; omega)) dX10_image_307 ?_
                refine tt_gen (fun σ308 hσ308 => ?_)
                replace hP : tkP μ σ308 (801 + 2 * k + 1 + 1) := by rw [hσ308]; exact tkP_set hP (Or.inl (by decide)) hz304
                have he := hP.1
                have he60 := hP.2.1
                refine tt_iinc X dX10_image_308 rfl (by decide) ?_
                refine tt_goto X 270 dX10_image_311 (by decide) ?_
                refine tt_loc [(0, _), (1, _), (2, _)] ⟨rfl, rfl, rfl, trivial⟩ ?_
                refine ih (_, k + 1) ⟨by show 0 ≤ k + 1 ∧ k + 1 ≤ 20; omega, tkP_K hP (by omega)⟩ (by show (20 - (k + 1)).toNat < (20 - k).toNat; omega)
            · refine tt_aload_n X rfl dX10_image_218 ?_
              refine tt_getr X fX10_32 (k_60 _ _) (by decide) ⟨nofun, nofun⟩ rfl dX10_image_219 ?_
              refine tt_iload_n X rfl dX10_image_222 ?_
              refine tt_aload_n X rfl dX10_image_223 ?_
              refine tt_aload_n X rfl dX10_image_224 ?_
              refine tt_getr X fX10_32 (k_60 _ _) (by decide) ⟨nofun, nofun⟩ rfl dX10_image_225 ?_
              refine tt_iload_n X rfl dX10_image_228 ?_
              refine tt_iaload X (k_67 _ _) (by first | omega | (simp (disch := decide) only [ot_rd, ot_rs, ot_rf, ot_ucd, ot_ucs, he, he60]; omega)) dX10_image_229 ?_
              try simp (disch := decide) only [ot_rd, ot_rs, ot_rf, ot_ucd, ot_ucs, he, he60]
              refine tt_vi X rfl mX10_330 (q_keptT l g ln ext _ μ (672 + 2 * k) _ (by omega) (tkP_K hP (by omega)) (by rw [tkP_cell (ν := μ) (show cellOf (672 + 2 * k) = (67, k) from cell_67 (by omega))])) (k_60 _ _) ⟨_, rfl, rfl⟩ rfl rfl (Nat.le_of_ble_eq_true rfl) (by decide) (by decide) (by decide) dX10_image_230 (fun z230 L230 μ230 hp => ?_)
              obtain ⟨rfl, hP, hz230⟩ := hp
              refine tt_iastore X (k_67 _ _) (by first | omega | (simp (disch := decide) only [ot_rd, ot_rs, ot_rf, ot_ucd, ot_ucs, he, he60]; omega)) dX10_image_233 ?_
              refine tt_gen (fun σ234 hσ234 => ?_)
              replace hP : tkP μ σ234 (672 + 2 * k + 1) := by rw [hσ234]; exact tkP_set hP (Or.inl (by decide)) hz230
              have he := hP.1
              have he60 := hP.2.1
              refine tt_aload_n X rfl dX10_image_234 ?_
              refine tt_getr X fX10_35 (k_60 _ _) (by decide) ⟨nofun, nofun⟩ rfl dX10_image_235 ?_
              refine tt_iload_n X rfl dX10_image_238 ?_
              refine tt_aload_n X rfl dX10_image_239 ?_
              refine tt_aload_n X rfl dX10_image_240 ?_
              refine tt_getr X fX10_35 (k_60 _ _) (by decide) ⟨nofun, nofun⟩ rfl dX10_image_241 ?_
              refine tt_iload_n X rfl dX10_image_244 ?_
              refine tt_iaload X (k_68 _ _) (by first | omega | (simp (disch := decide) only [ot_rd, ot_rs, ot_rf, ot_ucd, ot_ucs, he, he60]; omega)) dX10_image_245 ?_
              try simp (disch := decide) only [ot_rd, ot_rs, ot_rf, ot_ucd, ot_ucs, he, he60]
              refine tt_vi X rfl mX10_330 (q_keptT l g ln ext _ μ (672 + 2 * k + 1) _ (by omega) (tkP_K hP (by omega)) (by rw [tkP_cell (ν := μ) (show cellOf (672 + 2 * k + 1) = (68, k) from cell_68 (by omega))])) (k_60 _ _) ⟨_, rfl, rfl⟩ rfl rfl (Nat.le_of_ble_eq_true rfl) (by decide) (by decide) (by decide) dX10_image_246 (fun z246 L246 μ246 hp => ?_)
              obtain ⟨rfl, hP, hz246⟩ := hp
              refine tt_iastore X (k_68 _ _) (by first | omega | (simp (disch := decide) only [ot_rd, ot_rs, ot_rf, ot_ucd, ot_ucs, he, he60]; omega)) dX10_image_249 ?_
              refine tt_gen (fun σ250 hσ250 => ?_)
              replace hP : tkP μ σ250 (672 + 2 * k + 1 + 1) := by rw [hσ250]; exact tkP_set hP (Or.inl (by decide)) hz246
              have he := hP.1
              have he60 := hP.2.1
              refine tt_iinc X dX10_image_250 rfl (by decide) ?_
              refine tt_goto X 212 dX10_image_253 (by decide) ?_
              refine tt_loc [(0, _), (1, _), (2, _)] ⟨rfl, rfl, rfl, trivial⟩ ?_
              refine ih (_, k + 1) ⟨by show 0 ≤ k + 1 ∧ k + 1 ≤ 64; omega, tkP_K hP (by omega)⟩ (by show (64 - (k + 1)).toNat < (64 - k).toNat; omega)
          · refine tt_aload_n X rfl dX10_image_188 ?_
            refine tt_getr X fX10_29 (k_60 _ _) (by decide) ⟨nofun, nofun⟩ rfl dX10_image_189 ?_
            refine tt_iload_n X rfl dX10_image_192 ?_
            refine tt_aload_n X rfl dX10_image_193 ?_
            refine tt_aload_n X rfl dX10_image_194 ?_
            refine tt_getr X fX10_29 (k_60 _ _) (by decide) ⟨nofun, nofun⟩ rfl dX10_image_195 ?_
            refine tt_iload_n X rfl dX10_image_198 ?_
            refine tt_iaload X (k_66 _ _) (by first | omega | (simp (disch := decide) only [ot_rd, ot_rs, ot_rf, ot_ucd, ot_ucs, he, he60]; omega)) dX10_image_199 ?_
            try simp (disch := decide) only [ot_rd, ot_rs, ot_rf, ot_ucd, ot_ucs, he, he60]
            refine tt_vi X rfl mX10_330 (q_keptT l g ln ext _ μ (416 + k) _ (by omega) (tkP_K hP (by omega)) (by rw [tkP_cell (ν := μ) (show cellOf (416 + k) = (66, k) from cell_66 (by omega))])) (k_60 _ _) ⟨_, rfl, rfl⟩ rfl rfl (Nat.le_of_ble_eq_true rfl) (by decide) (by decide) (by decide) dX10_image_200 (fun z200 L200 μ200 hp => ?_)
            obtain ⟨rfl, hP, hz200⟩ := hp
            refine tt_iastore X (k_66 _ _) (by first | omega | (simp (disch := decide) only [ot_rd, ot_rs, ot_rf, ot_ucd, ot_ucs, he, he60]; omega)) dX10_image_203 ?_
            refine tt_gen (fun σ204 hσ204 => ?_)
            replace hP : tkP μ σ204 (416 + k + 1) := by rw [hσ204]; exact tkP_set hP (Or.inl (by decide)) hz200
            have he := hP.1
            have he60 := hP.2.1
            refine tt_iinc X dX10_image_204 rfl (by decide) ?_
            refine tt_goto X 181 dX10_image_207 (by decide) ?_
            refine tt_loc [(0, _), (1, _), (2, _)] ⟨rfl, rfl, rfl, trivial⟩ ?_
            refine ih (_, k + 1) ⟨by show 0 ≤ k + 1 ∧ k + 1 ≤ 256; omega, tkP_K hP (by omega)⟩ (by show (256 - (k + 1)).toNat < (256 - k).toNat; omega)
        · refine tt_aload_n X rfl dX10_image_157 ?_
          refine tt_getr X fX10_26 (k_60 _ _) (by decide) ⟨nofun, nofun⟩ rfl dX10_image_158 ?_
          refine tt_iload_n X rfl dX10_image_161 ?_
          refine tt_aload_n X rfl dX10_image_162 ?_
          refine tt_aload_n X rfl dX10_image_163 ?_
          refine tt_getr X fX10_26 (k_60 _ _) (by decide) ⟨nofun, nofun⟩ rfl dX10_image_164 ?_
          refine tt_iload_n X rfl dX10_image_167 ?_
          refine tt_iaload X (k_65 _ _) (by first | omega | (simp (disch := decide) only [ot_rd, ot_rs, ot_rf, ot_ucd, ot_ucs, he, he60]; omega)) dX10_image_168 ?_
          try simp (disch := decide) only [ot_rd, ot_rs, ot_rf, ot_ucd, ot_ucs, he, he60]
          refine tt_vi X rfl mX10_330 (q_keptT l g ln ext _ μ (56 + k) _ (by omega) (tkP_K hP (by omega)) (by rw [tkP_cell (ν := μ) (show cellOf (56 + k) = (65, k) from cell_65 (by omega))])) (k_60 _ _) ⟨_, rfl, rfl⟩ rfl rfl (Nat.le_of_ble_eq_true rfl) (by decide) (by decide) (by decide) dX10_image_169 (fun z169 L169 μ169 hp => ?_)
          obtain ⟨rfl, hP, hz169⟩ := hp
          refine tt_iastore X (k_65 _ _) (by first | omega | (simp (disch := decide) only [ot_rd, ot_rs, ot_rf, ot_ucd, ot_ucs, he, he60]; omega)) dX10_image_172 ?_
          refine tt_gen (fun σ173 hσ173 => ?_)
          replace hP : tkP μ σ173 (56 + k + 1) := by rw [hσ173]; exact tkP_set hP (Or.inl (by decide)) hz169
          have he := hP.1
          have he60 := hP.2.1
          refine tt_iinc X dX10_image_173 rfl (by decide) ?_
          refine tt_goto X 150 dX10_image_176 (by decide) ?_
          refine tt_loc [(0, _), (1, _), (2, _)] ⟨rfl, rfl, rfl, trivial⟩ ?_
          refine ih (_, k + 1) ⟨by show 0 ≤ k + 1 ∧ k + 1 ≤ 360; omega, tkP_K hP (by omega)⟩ (by show (360 - (k + 1)).toNat < (360 - k).toNat; omega)
      · refine tt_aload_n X rfl dX10_image_110 ?_
        refine tt_getr X fX10_20 (k_60 _ _) (by decide) ⟨nofun, nofun⟩ rfl dX10_image_111 ?_
        refine tt_iload_n X rfl dX10_image_114 ?_
        refine tt_aload_n X rfl dX10_image_115 ?_
        refine tt_aload_n X rfl dX10_image_116 ?_
        refine tt_getr X fX10_20 (k_60 _ _) (by decide) ⟨nofun, nofun⟩ rfl dX10_image_117 ?_
        refine tt_iload_n X rfl dX10_image_120 ?_
        refine tt_iaload X (k_63 _ _) (by first | omega | (simp (disch := decide) only [ot_rd, ot_rs, ot_rf, ot_ucd, ot_ucs, he, he60]; omega)) dX10_image_121 ?_
        try simp (disch := decide) only [ot_rd, ot_rs, ot_rf, ot_ucd, ot_ucs, he, he60]
        refine tt_vi X rfl mX10_330 (q_keptT l g ln ext _ μ (50 + 2 * k) _ (by omega) (tkP_K hP (by omega)) (by rw [tkP_cell (ν := μ) (show cellOf (50 + 2 * k) = (63, k) from cell_63 (by omega))])) (k_60 _ _) ⟨_, rfl, rfl⟩ rfl rfl (Nat.le_of_ble_eq_true rfl) (by decide) (by decide) (by decide) dX10_image_122 (fun z122 L122 μ122 hp => ?_)
        obtain ⟨rfl, hP, hz122⟩ := hp
        refine tt_iastore X (k_63 _ _) (by first | omega | (simp (disch := decide) only [ot_rd, ot_rs, ot_rf, ot_ucd, ot_ucs, he, he60]; omega)) dX10_image_125 ?_
        refine tt_gen (fun σ126 hσ126 => ?_)
        replace hP : tkP μ σ126 (50 + 2 * k + 1) := by rw [hσ126]; exact tkP_set hP (Or.inl (by decide)) hz122
        have he := hP.1
        have he60 := hP.2.1
        refine tt_aload_n X rfl dX10_image_126 ?_
        refine tt_getr X fX10_23 (k_60 _ _) (by decide) ⟨nofun, nofun⟩ rfl dX10_image_127 ?_
        refine tt_iload_n X rfl dX10_image_130 ?_
        refine tt_aload_n X rfl dX10_image_131 ?_
        refine tt_aload_n X rfl dX10_image_132 ?_
        refine tt_getr X fX10_23 (k_60 _ _) (by decide) ⟨nofun, nofun⟩ rfl dX10_image_133 ?_
        refine tt_iload_n X rfl dX10_image_136 ?_
        refine tt_iaload X (k_64 _ _) (by first | omega | (simp (disch := decide) only [ot_rd, ot_rs, ot_rf, ot_ucd, ot_ucs, he, he60]; omega)) dX10_image_137 ?_
        try simp (disch := decide) only [ot_rd, ot_rs, ot_rf, ot_ucd, ot_ucs, he, he60]
        refine tt_vi X rfl mX10_330 (q_keptT l g ln ext _ μ (50 + 2 * k + 1) _ (by omega) (tkP_K hP (by omega)) (by rw [tkP_cell (ν := μ) (show cellOf (50 + 2 * k + 1) = (64, k) from cell_64 (by omega))])) (k_60 _ _) ⟨_, rfl, rfl⟩ rfl rfl (Nat.le_of_ble_eq_true rfl) (by decide) (by decide) (by decide) dX10_image_138 (fun z138 L138 μ138 hp => ?_)
        obtain ⟨rfl, hP, hz138⟩ := hp
        refine tt_iastore X (k_64 _ _) (by first | omega | (simp (disch := decide) only [ot_rd, ot_rs, ot_rf, ot_ucd, ot_ucs, he, he60]; omega)) dX10_image_141 ?_
        refine tt_gen (fun σ142 hσ142 => ?_)
        replace hP : tkP μ σ142 (50 + 2 * k + 1 + 1) := by rw [hσ142]; exact tkP_set hP (Or.inl (by decide)) hz138
        have he := hP.1
        have he60 := hP.2.1
        refine tt_iinc X dX10_image_142 rfl (by decide) ?_
        refine tt_goto X 105 dX10_image_145 (by decide) ?_
        refine tt_loc [(0, _), (1, _), (2, _)] ⟨rfl, rfl, rfl, trivial⟩ ?_
        refine ih (_, k + 1) ⟨by show 0 ≤ k + 1 ∧ k + 1 ≤ 3; omega, tkP_K hP (by omega)⟩ (by show (3 - (k + 1)).toNat < (3 - k).toNat; omega)
    · refine tt_aload_n X rfl dX10_image_65 ?_
      refine tt_getr X fX10_13 (k_60 _ _) (by decide) ⟨nofun, nofun⟩ rfl dX10_image_66 ?_
      refine tt_iload_n X rfl dX10_image_69 ?_
      refine tt_aload_n X rfl dX10_image_70 ?_
      refine tt_aload_n X rfl dX10_image_71 ?_
      refine tt_getr X fX10_13 (k_60 _ _) (by decide) ⟨nofun, nofun⟩ rfl dX10_image_72 ?_
      refine tt_iload_n X rfl dX10_image_75 ?_
      refine tt_iaload X (k_61 _ _) (by first | omega | (simp (disch := decide) only [ot_rd, ot_rs, ot_rf, ot_ucd, ot_ucs, he, he60]; omega)) dX10_image_76 ?_
      try simp (disch := decide) only [ot_rd, ot_rs, ot_rf, ot_ucd, ot_ucs, he, he60]
      refine tt_vi X rfl mX10_330 (q_keptT l g ln ext _ μ (2 + 2 * k) _ (by omega) (tkP_K hP (by omega)) (by rw [tkP_cell (ν := μ) (show cellOf (2 + 2 * k) = (61, k) from cell_61 (by omega))])) (k_60 _ _) ⟨_, rfl, rfl⟩ rfl rfl (Nat.le_of_ble_eq_true rfl) (by decide) (by decide) (by decide) dX10_image_77 (fun z77 L77 μ77 hp => ?_)
      obtain ⟨rfl, hP, hz77⟩ := hp
      refine tt_iastore X (k_61 _ _) (by first | omega | (simp (disch := decide) only [ot_rd, ot_rs, ot_rf, ot_ucd, ot_ucs, he, he60]; omega)) dX10_image_80 ?_
      refine tt_gen (fun σ81 hσ81 => ?_)
      replace hP : tkP μ σ81 (2 + 2 * k + 1) := by rw [hσ81]; exact tkP_set hP (Or.inl (by decide)) hz77
      have he := hP.1
      have he60 := hP.2.1
      refine tt_aload_n X rfl dX10_image_81 ?_
      refine tt_getr X fX10_17 (k_60 _ _) (by decide) ⟨nofun, nofun⟩ rfl dX10_image_82 ?_
      refine tt_iload_n X rfl dX10_image_85 ?_
      refine tt_aload_n X rfl dX10_image_86 ?_
      refine tt_aload_n X rfl dX10_image_87 ?_
      refine tt_getr X fX10_17 (k_60 _ _) (by decide) ⟨nofun, nofun⟩ rfl dX10_image_88 ?_
      refine tt_iload_n X rfl dX10_image_91 ?_
      refine tt_iaload X (k_62 _ _) (by first | omega | (simp (disch := decide) only [ot_rd, ot_rs, ot_rf, ot_ucd, ot_ucs, he, he60]; omega)) dX10_image_92 ?_
      try simp (disch := decide) only [ot_rd, ot_rs, ot_rf, ot_ucd, ot_ucs, he, he60]
      refine tt_vi X rfl mX10_330 (q_keptT l g ln ext _ μ (2 + 2 * k + 1) _ (by omega) (tkP_K hP (by omega)) (by rw [tkP_cell (ν := μ) (show cellOf (2 + 2 * k + 1) = (62, k) from cell_62 (by omega))])) (k_60 _ _) ⟨_, rfl, rfl⟩ rfl rfl (Nat.le_of_ble_eq_true rfl) (by decide) (by decide) (by decide) dX10_image_93 (fun z93 L93 μ93 hp => ?_)
      obtain ⟨rfl, hP, hz93⟩ := hp
      refine tt_iastore X (k_62 _ _) (by first | omega | (simp (disch := decide) only [ot_rd, ot_rs, ot_rf, ot_ucd, ot_ucs, he, he60]; omega)) dX10_image_96 ?_
      refine tt_gen (fun σ97 hσ97 => ?_)
      replace hP : tkP μ σ97 (2 + 2 * k + 1 + 1) := by rw [hσ97]; exact tkP_set hP (Or.inl (by decide)) hz93
      have he := hP.1
      have he60 := hP.2.1
      refine tt_iinc X dX10_image_97 rfl (by decide) ?_
      refine tt_goto X 59 dX10_image_100 (by decide) ?_
      refine tt_loc [(0, _), (1, _), (2, _)] ⟨rfl, rfl, rfl, trivial⟩ ?_
      refine ih (_, k + 1) ⟨by show 0 ≤ k + 1 ∧ k + 1 ≤ 24; omega, tkP_K hP (by omega)⟩ (by show (24 - (k + 1)).toNat < (24 - k).toNat; omega)
  · exact absurd b6 (by decide)
set_option maxRecDepth 100000 in
set_option maxHeartbeats 1000000 in
theorem q_imageR (l : Launch) (g : ot_G) (ln : Nat) (ext : ot_L) (μ : ot_M) (h0 : μ 60 0 = 0) (hI0 : μ 60 46 = 1) : ot_C l g yX10_image cX10_image 3 (some .boolean) 2 0 0 [.inr 60, .inl 0] (LL ln ext) μ (ot_pi (fun r L2 μ2 => L2 = LL ln ext ∧ r = 1 ∧ ∃ σ, rsP μ σ 1690 ∧ μ2 = ot_up σ 60 14 0)) := by
  refine ot_enter (by decide) (Nat.le_of_ble_eq_true rfl) ?_
  intro p e s m args below meth c X hr
  refine tt_aload_n X rfl dX10_image_0 ?_
  refine tt_iconst X dX10_image_1 ?_
  refine tt_puti X fX10_98 kc_10 (k_60 _ _) (by decide) (fun q hq => by cases hq; rfl) rfl dX10_image_2 ?_
  refine tt_mem (ot_nop h0) ?_
  refine tt_iload_n X rfl dX10_image_5 ?_
  refine tt_if_ne X 18 (by omega) dX10_image_6 (by decide) (fun b6 => ?_) (fun b6 => ?_)
  · exact absurd rfl b6
  · refine tt_aload_n X rfl dX10_image_9 ?_
    refine tt_geti X fX10_333 (k_60 _ _) (by decide) (Or.inr rfl) dX10_image_10 ?_
    refine tt_if_ne X 18 (by omega) dX10_image_13 (by decide) (fun b13 => ?_) (fun b13 => ?_)
    · refine tt_aload_n X rfl dX10_image_18 ?_
      refine tt_iload_n X rfl dX10_image_19 ?_
      refine tt_putz X fX10_326 kc_10 (k_60 _ _) (by decide) (fun q hq => by cases hq; rfl) rfl (by omega) dX10_image_20 ?_
      refine tt_aload_n X rfl dX10_image_23 ?_
      refine tt_iconst X dX10_image_24 ?_
      refine tt_putz X fX10_333 kc_10 (k_60 _ _) (by decide) (fun q hq => by cases hq; rfl) rfl (by omega) dX10_image_25 ?_
      refine tt_aload_n X rfl dX10_image_28 ?_
      refine tt_iconst X dX10_image_29 ?_
      refine tt_puti X fX10_323 kc_10 (k_60 _ _) (by decide) (fun q hq => by cases hq; rfl) rfl dX10_image_30 ?_
      refine tt_gen (fun σ33 hσ33 => ?_)
      have hP : rsP μ σ33 0 := by
        rw [hσ33]
        refine ⟨fun A x hA hx => ?_, by simp (disch := decide) only [ot_rd, ot_rs, ot_rf, ot_ucd, ot_ucs, ot_rdf], by simp (disch := decide) only [ot_rd, ot_rs, ot_rf, ot_ucd, ot_ucs, ot_rdf], by simp (disch := decide) only [ot_rd, ot_rs, ot_rf, ot_ucd, ot_ucs, ot_rdf], by simp (disch := decide) only [ot_rd, ot_rs, ot_rf, ot_ucd, ot_ucs, ot_rdf]⟩
        rw [if_neg (by omega)]
        by_cases w : A = 60
        · subst w; rw [ot_rf (by omega), ot_rf (by omega), ot_rf (by omega)]
        · rw [ot_rd w, ot_rd w, ot_rd w]
      refine tt_aload_n X rfl dX10_image_33 ?_
      refine tt_aload_n X rfl dX10_image_34 ?_
      refine tt_aload_n X rfl dX10_image_35 ?_
      refine tt_geti X fX10_7 (k_60 _ _) (by decide) (Or.inl rfl) dX10_image_36 ?_
      try simp (disch := decide) only [ot_rd, ot_rs, ot_rf, ot_ucd, ot_ucs]
      refine tt_vi X rfl mX10_330 (q_keptR l g ln ext _ μ (0) _ (by omega) (rsP_K hP (by omega))) (k_60 _ _) ⟨_, rfl, rfl⟩ rfl rfl (Nat.le_of_ble_eq_true rfl) (by decide) (by decide) (by decide) dX10_image_39 (fun z39 L39 μ39 hp => ?_)
      obtain ⟨rfl, rfl, hz39⟩ := hp
      refine tt_puti X fX10_7 kc_10 (k_60 _ _) (by decide) (fun q hq => by cases hq; rfl) rfl dX10_image_42 ?_
      refine tt_gen (fun σ45 hσ45 => ?_)
      replace hP : rsP μ σ45 (0 + 1) := by rw [hσ45]; exact rsP_set (rsP_K hP (by omega)) (by omega) (show imgP 60 1 = 0 from rfl) hz39 (by decide) (by decide)
      refine tt_aload_n X rfl dX10_image_45 ?_
      refine tt_aload_n X rfl dX10_image_46 ?_
      refine tt_aload_n X rfl dX10_image_47 ?_
      refine tt_geti X fX10_101 (k_60 _ _) (by decide) (Or.inl rfl) dX10_image_48 ?_
      try simp (disch := decide) only [ot_rd, ot_rs, ot_rf, ot_ucd, ot_ucs]
      refine tt_vi X rfl mX10_330 (q_keptR l g ln ext _ μ (1) _ (by omega) (rsP_K hP (by omega))) (k_60 _ _) ⟨_, rfl, rfl⟩ rfl rfl (Nat.le_of_ble_eq_true rfl) (by decide) (by decide) (by decide) dX10_image_51 (fun z51 L51 μ51 hp => ?_)
      obtain ⟨rfl, rfl, hz51⟩ := hp
      refine tt_puti X fX10_101 kc_10 (k_60 _ _) (by decide) (fun q hq => by cases hq; rfl) rfl dX10_image_54 ?_
      refine tt_gen (fun σ57 hσ57 => ?_)
      replace hP : rsP μ σ57 (1 + 1) := by rw [hσ57]; exact rsP_set (rsP_K hP (by omega)) (by omega) (show imgP 60 2 = 1 from rfl) hz51 (by decide) (by decide)
      refine tt_iconst X dX10_image_57 ?_
      refine tt_istore_n X dX10_image_58 (by decide) ?_
      refine tt_gen (fun ρ hρ => ?_)
      replace hP : rsP μ ρ (2) := by rw [hρ]; exact rsP_K hP (by omega)
      refine tt_loc [(0, _), (1, _), (2, _)] ⟨rfl, rfl, rfl, trivial⟩ ?_
      refine tt_loop (α := ot_M × Int) (fun ((σ, k)) => (24 - k).toNat) (fun ((σ, k)) => (0 ≤ k ∧ k ≤ 24) ∧ rsP μ σ (2 + 2 * k)) (fun ((σ, k)) => σ) (fun ((σ, k)) => [(0, .inr 60), (1, .inl 0), (2, .inl k)]) (ρ, 0) ⟨by show 0 ≤ (0 : Int) ∧ (0 : Int) ≤ 24; omega, rsP_K hP (by omega)⟩ ?_
      intro a hI ih
      obtain ⟨σ, k⟩ := a
      try dsimp only at hI ih ⊢
      replace hI : (0 ≤ k ∧ k ≤ 24) ∧ rsP μ σ (2 + 2 * k) := hI
      have hk := hI.1
      have hP := hI.2
      refine tt_iload_n X rfl dX10_image_59 ?_
      refine tt_bipush X (by decide) dX10_image_60 ?_
      refine tt_icmp_ge X 103 (by first | omega | (simp (disch := decide) only [ot_rd, ot_rs, ot_rf, ot_ucd, ot_ucs]; omega)) dX10_image_62 (by decide) (fun b62 => ?_) (fun b62 => ?_)
      · refine tt_iconst X dX10_image_103 ?_
        refine tt_istore_n X dX10_image_104 (by decide) ?_
        refine tt_gen (fun ρ hρ => ?_)
        replace hP : rsP μ ρ (50) := by rw [hρ]; exact rsP_K hP (by omega)
        refine tt_loc [(0, _), (1, _), (2, _)] ⟨rfl, rfl, rfl, trivial⟩ ?_
        refine tt_loop (α := ot_M × Int) (fun ((σ, k)) => (3 - k).toNat) (fun ((σ, k)) => (0 ≤ k ∧ k ≤ 3) ∧ rsP μ σ (50 + 2 * k)) (fun ((σ, k)) => σ) (fun ((σ, k)) => [(0, .inr 60), (1, .inl 0), (2, .inl k)]) (ρ, 0) ⟨by show 0 ≤ (0 : Int) ∧ (0 : Int) ≤ 3; omega, rsP_K hP (by omega)⟩ ?_
        intro a hI ih
        obtain ⟨σ, k⟩ := a
        try dsimp only at hI ih ⊢
        replace hI : (0 ≤ k ∧ k ≤ 3) ∧ rsP μ σ (50 + 2 * k) := hI
        have hk := hI.1
        have hP := hI.2
        refine tt_iload_n X rfl dX10_image_105 ?_
        refine tt_iconst X dX10_image_106 ?_
        refine tt_icmp_ge X 148 (by first | omega | (simp (disch := decide) only [ot_rd, ot_rs, ot_rf, ot_ucd, ot_ucs]; omega)) dX10_image_107 (by decide) (fun b107 => ?_) (fun b107 => ?_)
        · refine tt_iconst X dX10_image_148 ?_
          refine tt_istore_n X dX10_image_149 (by decide) ?_
          refine tt_gen (fun ρ hρ => ?_)
          replace hP : rsP μ ρ (56) := by rw [hρ]; exact rsP_K hP (by omega)
          refine tt_loc [(0, _), (1, _), (2, _)] ⟨rfl, rfl, rfl, trivial⟩ ?_
          refine tt_loop (α := ot_M × Int) (fun ((σ, k)) => (360 - k).toNat) (fun ((σ, k)) => (0 ≤ k ∧ k ≤ 360) ∧ rsP μ σ (56 + k)) (fun ((σ, k)) => σ) (fun ((σ, k)) => [(0, .inr 60), (1, .inl 0), (2, .inl k)]) (ρ, 0) ⟨by show 0 ≤ (0 : Int) ∧ (0 : Int) ≤ 360; omega, rsP_K hP (by omega)⟩ ?_
          intro a hI ih
          obtain ⟨σ, k⟩ := a
          try dsimp only at hI ih ⊢
          replace hI : (0 ≤ k ∧ k ≤ 360) ∧ rsP μ σ (56 + k) := hI
          have hk := hI.1
          have hP := hI.2
          refine tt_iload_n X rfl dX10_image_150 ?_
          refine tt_sipush X (by decide) dX10_image_151 ?_
          refine tt_icmp_ge X 179 (by first | omega | (simp (disch := decide) only [ot_rd, ot_rs, ot_rf, ot_ucd, ot_ucs]; omega)) dX10_image_154 (by decide) (fun b154 => ?_) (fun b154 => ?_)
          · refine tt_iconst X dX10_image_179 ?_
            refine tt_istore_n X dX10_image_180 (by decide) ?_
            refine tt_gen (fun ρ hρ => ?_)
            replace hP : rsP μ ρ (416) := by rw [hρ]; exact rsP_K hP (by omega)
            refine tt_loc [(0, _), (1, _), (2, _)] ⟨rfl, rfl, rfl, trivial⟩ ?_
            refine tt_loop (α := ot_M × Int) (fun ((σ, k)) => (256 - k).toNat) (fun ((σ, k)) => (0 ≤ k ∧ k ≤ 256) ∧ rsP μ σ (416 + k)) (fun ((σ, k)) => σ) (fun ((σ, k)) => [(0, .inr 60), (1, .inl 0), (2, .inl k)]) (ρ, 0) ⟨by show 0 ≤ (0 : Int) ∧ (0 : Int) ≤ 256; omega, rsP_K hP (by omega)⟩ ?_
            intro a hI ih
            obtain ⟨σ, k⟩ := a
            try dsimp only at hI ih ⊢
            replace hI : (0 ≤ k ∧ k ≤ 256) ∧ rsP μ σ (416 + k) := hI
            have hk := hI.1
            have hP := hI.2
            refine tt_iload_n X rfl dX10_image_181 ?_
            refine tt_sipush X (by decide) dX10_image_182 ?_
            refine tt_icmp_ge X 210 (by first | omega | (simp (disch := decide) only [ot_rd, ot_rs, ot_rf, ot_ucd, ot_ucs]; omega)) dX10_image_185 (by decide) (fun b185 => ?_) (fun b185 => ?_)
            · refine tt_iconst X dX10_image_210 ?_
              refine tt_istore_n X dX10_image_211 (by decide) ?_
              refine tt_gen (fun ρ hρ => ?_)
              replace hP : rsP μ ρ (672) := by rw [hρ]; exact rsP_K hP (by omega)
              refine tt_loc [(0, _), (1, _), (2, _)] ⟨rfl, rfl, rfl, trivial⟩ ?_
              refine tt_loop (α := ot_M × Int) (fun ((σ, k)) => (64 - k).toNat) (fun ((σ, k)) => (0 ≤ k ∧ k ≤ 64) ∧ rsP μ σ (672 + 2 * k)) (fun ((σ, k)) => σ) (fun ((σ, k)) => [(0, .inr 60), (1, .inl 0), (2, .inl k)]) (ρ, 0) ⟨by show 0 ≤ (0 : Int) ∧ (0 : Int) ≤ 64; omega, rsP_K hP (by omega)⟩ ?_
              intro a hI ih
              obtain ⟨σ, k⟩ := a
              try dsimp only at hI ih ⊢
              replace hI : (0 ≤ k ∧ k ≤ 64) ∧ rsP μ σ (672 + 2 * k) := hI
              have hk := hI.1
              have hP := hI.2
              refine tt_iload_n X rfl dX10_image_212 ?_
              refine tt_bipush X (by decide) dX10_image_213 ?_
              refine tt_icmp_ge X 256 (by first | omega | (simp (disch := decide) only [ot_rd, ot_rs, ot_rf, ot_ucd, ot_ucs]; omega)) dX10_image_215 (by decide) (fun b215 => ?_) (fun b215 => ?_)
              · refine tt_aload_n X rfl dX10_image_256 ?_
                refine tt_aload_n X rfl dX10_image_257 ?_
                refine tt_aload_n X rfl dX10_image_258 ?_
                refine tt_geti X fX10_108 (k_60 _ _) (by decide) (Or.inl rfl) dX10_image_259 ?_
                try simp (disch := decide) only [ot_rd, ot_rs, ot_rf, ot_ucd, ot_ucs]
                refine tt_vi X rfl mX10_330 (q_keptR l g ln ext _ μ (800) _ (by omega) (rsP_K hP (by omega))) (k_60 _ _) ⟨_, rfl, rfl⟩ rfl rfl (Nat.le_of_ble_eq_true rfl) (by decide) (by decide) (by decide) dX10_image_262 (fun z262 L262 μ262 hp => ?_)
                obtain ⟨rfl, rfl, hz262⟩ := hp
                refine tt_puti X fX10_108 kc_10 (k_60 _ _) (by decide) (fun q hq => by cases hq; rfl) rfl dX10_image_265 ?_
                refine tt_gen (fun σ268 hσ268 => ?_)
                replace hP : rsP μ σ268 (800 + 1) := by rw [hσ268]; exact rsP_set (rsP_K hP (by omega)) (by omega) (show imgP 60 11 = 800 from rfl) hz262 (by decide) (by decide)
                refine tt_iconst X dX10_image_268 ?_
                refine tt_istore_n X dX10_image_269 (by decide) ?_
                refine tt_gen (fun ρ hρ => ?_)
                replace hP : rsP μ ρ (801) := by rw [hρ]; exact rsP_K hP (by omega)
                refine tt_loc [(0, _), (1, _), (2, _)] ⟨rfl, rfl, rfl, trivial⟩ ?_
                refine tt_loop (α := ot_M × Int) (fun ((σ, k)) => (20 - k).toNat) (fun ((σ, k)) => (0 ≤ k ∧ k ≤ 20) ∧ rsP μ σ (801 + 2 * k)) (fun ((σ, k)) => σ) (fun ((σ, k)) => [(0, .inr 60), (1, .inl 0), (2, .inl k)]) (ρ, 0) ⟨by show 0 ≤ (0 : Int) ∧ (0 : Int) ≤ 20; omega, rsP_K hP (by omega)⟩ ?_
                intro a hI ih
                obtain ⟨σ, k⟩ := a
                try dsimp only at hI ih ⊢
                replace hI : (0 ≤ k ∧ k ≤ 20) ∧ rsP μ σ (801 + 2 * k) := hI
                have hk := hI.1
                have hP := hI.2
                refine tt_iload_n X rfl dX10_image_270 ?_
                refine tt_bipush X (by decide) dX10_image_271 ?_
                refine tt_icmp_ge X 314 (by first | omega | (simp (disch := decide) only [ot_rd, ot_rs, ot_rf, ot_ucd, ot_ucs]; omega)) dX10_image_273 (by decide) (fun b273 => ?_) (fun b273 => ?_)
                · refine tt_aload_n X rfl dX10_image_314 ?_
                  refine tt_vv X rfl mX10_336 (q_keepsLawR l g ln ext _ μ (rsP_K hP (by omega))) (k_60 _ _) ⟨_, rfl, rfl⟩ rfl rfl (Nat.le_of_ble_eq_true rfl) (by decide) (by decide) (by decide) dX10_image_315 (fun L315 μ315 hp => ?_)
                  obtain ⟨rfl, hP⟩ := hp
                  refine tt_iload_n X rfl dX10_image_318 ?_
                  refine tt_if_ne X 327 (by first | omega | (simp (disch := decide) only [ot_rd, ot_rs, ot_rf, ot_ucd, ot_ucs]; omega)) dX10_image_319 (by decide) (fun b319 => ?_) (fun b319 => ?_)
                  · exact absurd rfl b319
                  · refine tt_aload_n X rfl dX10_image_322 ?_
                    refine tt_iconst X dX10_image_323 ?_
                    refine tt_puti X fX10_111 kc_10 (k_60 _ _) (by decide) (fun q hq => by cases hq; rfl) rfl dX10_image_324 ?_
                    refine tt_iconst X dX10_image_327 ?_
                    refine tt_zret X ⟨hr.1, hr.2.1⟩ (by omega) (by decide) (by decide) dX10_image_328 ?_
                    exact ⟨rfl, rfl, _, hP, rfl⟩
                · refine tt_aload_n X rfl dX10_image_276 ?_
                  refine tt_getr X fX10_38 (k_60 _ _) (by decide) ⟨nofun, nofun⟩ rfl dX10_image_277 ?_
                  refine tt_iload_n X rfl dX10_image_280 ?_
                  refine tt_aload_n X rfl dX10_image_281 ?_
                  refine tt_aload_n X rfl dX10_image_282 ?_
                  refine tt_getr X fX10_38 (k_60 _ _) (by decide) ⟨nofun, nofun⟩ rfl dX10_image_283 ?_
                  refine tt_iload_n X rfl dX10_image_286 ?_
                  refine tt_iaload X (k_69 _ _) (by first | omega | (simp (disch := decide) only [ot_rd, ot_rs, ot_rf, ot_ucd, ot_ucs]; omega)) dX10_image_287 ?_
                  try simp (disch := decide) only [ot_rd, ot_rs, ot_rf, ot_ucd, ot_ucs]
                  refine tt_vi X rfl mX10_330 (q_keptR l g ln ext _ μ (801 + 2 * k) _ (by omega) (rsP_K hP (by omega))) (k_60 _ _) ⟨_, rfl, rfl⟩ rfl rfl (Nat.le_of_ble_eq_true rfl) (by decide) (by decide) (by decide) dX10_image_288 (fun z288 L288 μ288 hp => ?_)
                  obtain ⟨rfl, rfl, hz288⟩ := hp
                  refine tt_iastore X (k_69 _ _) (by first | omega | (simp (disch := decide) only [ot_rd, ot_rs, ot_rf, ot_ucd, ot_ucs]; omega)) dX10_image_291 ?_
                  refine tt_gen (fun σ292 hσ292 => ?_)
                  replace hP : rsP μ σ292 (801 + 2 * k + 1) := by rw [hσ292]; exact rsP_set (rsP_K hP (by omega)) (by omega) (show imgP 69 k = 801 + 2 * k from imgP_69 (by omega)) hz288 (by decide) (by omega)
                  refine tt_aload_n X rfl dX10_image_292 ?_
                  refine tt_getr X fX10_41 (k_60 _ _) (by decide) ⟨nofun, nofun⟩ rfl dX10_image_293 ?_
                  refine tt_iload_n X rfl dX10_image_296 ?_
                  refine tt_aload_n X rfl dX10_image_297 ?_
                  refine tt_aload_n X rfl dX10_image_298 ?_
                  refine tt_getr X fX10_41 (k_60 _ _) (by decide) ⟨nofun, nofun⟩ rfl dX10_image_299 ?_
                  refine tt_iload_n X rfl dX10_image_302 ?_
                  refine tt_iaload X (k_70 _ _) (by first | omega | (simp (disch := decide) only [ot_rd, ot_rs, ot_rf, ot_ucd, ot_ucs]; omega)) dX10_image_303 ?_
                  try simp (disch := decide) only [ot_rd, ot_rs, ot_rf, ot_ucd, ot_ucs]
                  refine tt_vi X rfl mX10_330 (q_keptR l g ln ext _ μ (801 + 2 * k + 1) _ (by omega) (rsP_K hP (by omega))) (k_60 _ _) ⟨_, rfl, rfl⟩ rfl rfl (Nat.le_of_ble_eq_true rfl) (by decide) (by decide) (by decide) dX10_image_304 (fun z304 L304 μ304 hp => ?_)
                  obtain ⟨rfl, rfl, hz304⟩ := hp
                  refine tt_iastore X (k_70 _ _) (by first | omega | (simp (disch := decide) only [ot_rd, ot_rs, ot_rf, ot_ucd, ot_ucs]; omega)) dX10_image_307 ?_
                  refine tt_gen (fun σ308 hσ308 => ?_)
                  replace hP : rsP μ σ308 (801 + 2 * k + 1 + 1) := by rw [hσ308]; exact rsP_set (rsP_K hP (by omega)) (by omega) (show imgP 70 k = 801 + 2 * k + 1 from imgP_70 (by omega)) hz304 (by decide) (by omega)
                  refine tt_iinc X dX10_image_308 rfl (by decide) ?_
                  refine tt_goto X 270 dX10_image_311 (by decide) ?_
                  refine tt_loc [(0, _), (1, _), (2, _)] ⟨rfl, rfl, rfl, trivial⟩ ?_
                  refine ih (_, k + 1) ⟨by show 0 ≤ k + 1 ∧ k + 1 ≤ 20; omega, rsP_K hP (by omega)⟩ (by show (20 - (k + 1)).toNat < (20 - k).toNat; omega)
              · refine tt_aload_n X rfl dX10_image_218 ?_
                refine tt_getr X fX10_32 (k_60 _ _) (by decide) ⟨nofun, nofun⟩ rfl dX10_image_219 ?_
                refine tt_iload_n X rfl dX10_image_222 ?_
                refine tt_aload_n X rfl dX10_image_223 ?_
                refine tt_aload_n X rfl dX10_image_224 ?_
                refine tt_getr X fX10_32 (k_60 _ _) (by decide) ⟨nofun, nofun⟩ rfl dX10_image_225 ?_
                refine tt_iload_n X rfl dX10_image_228 ?_
                refine tt_iaload X (k_67 _ _) (by first | omega | (simp (disch := decide) only [ot_rd, ot_rs, ot_rf, ot_ucd, ot_ucs]; omega)) dX10_image_229 ?_
                try simp (disch := decide) only [ot_rd, ot_rs, ot_rf, ot_ucd, ot_ucs]
                refine tt_vi X rfl mX10_330 (q_keptR l g ln ext _ μ (672 + 2 * k) _ (by omega) (rsP_K hP (by omega))) (k_60 _ _) ⟨_, rfl, rfl⟩ rfl rfl (Nat.le_of_ble_eq_true rfl) (by decide) (by decide) (by decide) dX10_image_230 (fun z230 L230 μ230 hp => ?_)
                obtain ⟨rfl, rfl, hz230⟩ := hp
                refine tt_iastore X (k_67 _ _) (by first | omega | (simp (disch := decide) only [ot_rd, ot_rs, ot_rf, ot_ucd, ot_ucs]; omega)) dX10_image_233 ?_
                refine tt_gen (fun σ234 hσ234 => ?_)
                replace hP : rsP μ σ234 (672 + 2 * k + 1) := by rw [hσ234]; exact rsP_set (rsP_K hP (by omega)) (by omega) (show imgP 67 k = 672 + 2 * k from imgP_67 (by omega)) hz230 (by decide) (by omega)
                refine tt_aload_n X rfl dX10_image_234 ?_
                refine tt_getr X fX10_35 (k_60 _ _) (by decide) ⟨nofun, nofun⟩ rfl dX10_image_235 ?_
                refine tt_iload_n X rfl dX10_image_238 ?_
                refine tt_aload_n X rfl dX10_image_239 ?_
                refine tt_aload_n X rfl dX10_image_240 ?_
                refine tt_getr X fX10_35 (k_60 _ _) (by decide) ⟨nofun, nofun⟩ rfl dX10_image_241 ?_
                refine tt_iload_n X rfl dX10_image_244 ?_
                refine tt_iaload X (k_68 _ _) (by first | omega | (simp (disch := decide) only [ot_rd, ot_rs, ot_rf, ot_ucd, ot_ucs]; omega)) dX10_image_245 ?_
                try simp (disch := decide) only [ot_rd, ot_rs, ot_rf, ot_ucd, ot_ucs]
                refine tt_vi X rfl mX10_330 (q_keptR l g ln ext _ μ (672 + 2 * k + 1) _ (by omega) (rsP_K hP (by omega))) (k_60 _ _) ⟨_, rfl, rfl⟩ rfl rfl (Nat.le_of_ble_eq_true rfl) (by decide) (by decide) (by decide) dX10_image_246 (fun z246 L246 μ246 hp => ?_)
                obtain ⟨rfl, rfl, hz246⟩ := hp
                refine tt_iastore X (k_68 _ _) (by first | omega | (simp (disch := decide) only [ot_rd, ot_rs, ot_rf, ot_ucd, ot_ucs]; omega)) dX10_image_249 ?_
                refine tt_gen (fun σ250 hσ250 => ?_)
                replace hP : rsP μ σ250 (672 + 2 * k + 1 + 1) := by rw [hσ250]; exact rsP_set (rsP_K hP (by omega)) (by omega) (show imgP 68 k = 672 + 2 * k + 1 from imgP_68 (by omega)) hz246 (by decide) (by omega)
                refine tt_iinc X dX10_image_250 rfl (by decide) ?_
                refine tt_goto X 212 dX10_image_253 (by decide) ?_
                refine tt_loc [(0, _), (1, _), (2, _)] ⟨rfl, rfl, rfl, trivial⟩ ?_
                refine ih (_, k + 1) ⟨by show 0 ≤ k + 1 ∧ k + 1 ≤ 64; omega, rsP_K hP (by omega)⟩ (by show (64 - (k + 1)).toNat < (64 - k).toNat; omega)
            · refine tt_aload_n X rfl dX10_image_188 ?_
              refine tt_getr X fX10_29 (k_60 _ _) (by decide) ⟨nofun, nofun⟩ rfl dX10_image_189 ?_
              refine tt_iload_n X rfl dX10_image_192 ?_
              refine tt_aload_n X rfl dX10_image_193 ?_
              refine tt_aload_n X rfl dX10_image_194 ?_
              refine tt_getr X fX10_29 (k_60 _ _) (by decide) ⟨nofun, nofun⟩ rfl dX10_image_195 ?_
              refine tt_iload_n X rfl dX10_image_198 ?_
              refine tt_iaload X (k_66 _ _) (by first | omega | (simp (disch := decide) only [ot_rd, ot_rs, ot_rf, ot_ucd, ot_ucs]; omega)) dX10_image_199 ?_
              try simp (disch := decide) only [ot_rd, ot_rs, ot_rf, ot_ucd, ot_ucs]
              refine tt_vi X rfl mX10_330 (q_keptR l g ln ext _ μ (416 + k) _ (by omega) (rsP_K hP (by omega))) (k_60 _ _) ⟨_, rfl, rfl⟩ rfl rfl (Nat.le_of_ble_eq_true rfl) (by decide) (by decide) (by decide) dX10_image_200 (fun z200 L200 μ200 hp => ?_)
              obtain ⟨rfl, rfl, hz200⟩ := hp
              refine tt_iastore X (k_66 _ _) (by first | omega | (simp (disch := decide) only [ot_rd, ot_rs, ot_rf, ot_ucd, ot_ucs]; omega)) dX10_image_203 ?_
              refine tt_gen (fun σ204 hσ204 => ?_)
              replace hP : rsP μ σ204 (416 + k + 1) := by rw [hσ204]; exact rsP_set (rsP_K hP (by omega)) (by omega) (show imgP 66 k = 416 + k from imgP_66 (by omega)) hz200 (by decide) (by omega)
              refine tt_iinc X dX10_image_204 rfl (by decide) ?_
              refine tt_goto X 181 dX10_image_207 (by decide) ?_
              refine tt_loc [(0, _), (1, _), (2, _)] ⟨rfl, rfl, rfl, trivial⟩ ?_
              refine ih (_, k + 1) ⟨by show 0 ≤ k + 1 ∧ k + 1 ≤ 256; omega, rsP_K hP (by omega)⟩ (by show (256 - (k + 1)).toNat < (256 - k).toNat; omega)
          · refine tt_aload_n X rfl dX10_image_157 ?_
            refine tt_getr X fX10_26 (k_60 _ _) (by decide) ⟨nofun, nofun⟩ rfl dX10_image_158 ?_
            refine tt_iload_n X rfl dX10_image_161 ?_
            refine tt_aload_n X rfl dX10_image_162 ?_
            refine tt_aload_n X rfl dX10_image_163 ?_
            refine tt_getr X fX10_26 (k_60 _ _) (by decide) ⟨nofun, nofun⟩ rfl dX10_image_164 ?_
            refine tt_iload_n X rfl dX10_image_167 ?_
            refine tt_iaload X (k_65 _ _) (by first | omega | (simp (disch := decide) only [ot_rd, ot_rs, ot_rf, ot_ucd, ot_ucs]; omega)) dX10_image_168 ?_
            try simp (disch := decide) only [ot_rd, ot_rs, ot_rf, ot_ucd, ot_ucs]
            refine tt_vi X rfl mX10_330 (q_keptR l g ln ext _ μ (56 + k) _ (by omega) (rsP_K hP (by omega))) (k_60 _ _) ⟨_, rfl, rfl⟩ rfl rfl (Nat.le_of_ble_eq_true rfl) (by decide) (by decide) (by decide) dX10_image_169 (fun z169 L169 μ169 hp => ?_)
            obtain ⟨rfl, rfl, hz169⟩ := hp
            refine tt_iastore X (k_65 _ _) (by first | omega | (simp (disch := decide) only [ot_rd, ot_rs, ot_rf, ot_ucd, ot_ucs]; omega)) dX10_image_172 ?_
            refine tt_gen (fun σ173 hσ173 => ?_)
            replace hP : rsP μ σ173 (56 + k + 1) := by rw [hσ173]; exact rsP_set (rsP_K hP (by omega)) (by omega) (show imgP 65 k = 56 + k from imgP_65 (by omega)) hz169 (by decide) (by omega)
            refine tt_iinc X dX10_image_173 rfl (by decide) ?_
            refine tt_goto X 150 dX10_image_176 (by decide) ?_
            refine tt_loc [(0, _), (1, _), (2, _)] ⟨rfl, rfl, rfl, trivial⟩ ?_
            refine ih (_, k + 1) ⟨by show 0 ≤ k + 1 ∧ k + 1 ≤ 360; omega, rsP_K hP (by omega)⟩ (by show (360 - (k + 1)).toNat < (360 - k).toNat; omega)
        · refine tt_aload_n X rfl dX10_image_110 ?_
          refine tt_getr X fX10_20 (k_60 _ _) (by decide) ⟨nofun, nofun⟩ rfl dX10_image_111 ?_
          refine tt_iload_n X rfl dX10_image_114 ?_
          refine tt_aload_n X rfl dX10_image_115 ?_
          refine tt_aload_n X rfl dX10_image_116 ?_
          refine tt_getr X fX10_20 (k_60 _ _) (by decide) ⟨nofun, nofun⟩ rfl dX10_image_117 ?_
          refine tt_iload_n X rfl dX10_image_120 ?_
          refine tt_iaload X (k_63 _ _) (by first | omega | (simp (disch := decide) only [ot_rd, ot_rs, ot_rf, ot_ucd, ot_ucs]; omega)) dX10_image_121 ?_
          try simp (disch := decide) only [ot_rd, ot_rs, ot_rf, ot_ucd, ot_ucs]
          refine tt_vi X rfl mX10_330 (q_keptR l g ln ext _ μ (50 + 2 * k) _ (by omega) (rsP_K hP (by omega))) (k_60 _ _) ⟨_, rfl, rfl⟩ rfl rfl (Nat.le_of_ble_eq_true rfl) (by decide) (by decide) (by decide) dX10_image_122 (fun z122 L122 μ122 hp => ?_)
          obtain ⟨rfl, rfl, hz122⟩ := hp
          refine tt_iastore X (k_63 _ _) (by first | omega | (simp (disch := decide) only [ot_rd, ot_rs, ot_rf, ot_ucd, ot_ucs]; omega)) dX10_image_125 ?_
          refine tt_gen (fun σ126 hσ126 => ?_)
          replace hP : rsP μ σ126 (50 + 2 * k + 1) := by rw [hσ126]; exact rsP_set (rsP_K hP (by omega)) (by omega) (show imgP 63 k = 50 + 2 * k from imgP_63 (by omega)) hz122 (by decide) (by omega)
          refine tt_aload_n X rfl dX10_image_126 ?_
          refine tt_getr X fX10_23 (k_60 _ _) (by decide) ⟨nofun, nofun⟩ rfl dX10_image_127 ?_
          refine tt_iload_n X rfl dX10_image_130 ?_
          refine tt_aload_n X rfl dX10_image_131 ?_
          refine tt_aload_n X rfl dX10_image_132 ?_
          refine tt_getr X fX10_23 (k_60 _ _) (by decide) ⟨nofun, nofun⟩ rfl dX10_image_133 ?_
          refine tt_iload_n X rfl dX10_image_136 ?_
          refine tt_iaload X (k_64 _ _) (by first | omega | (simp (disch := decide) only [ot_rd, ot_rs, ot_rf, ot_ucd, ot_ucs]; omega)) dX10_image_137 ?_
          try simp (disch := decide) only [ot_rd, ot_rs, ot_rf, ot_ucd, ot_ucs]
          refine tt_vi X rfl mX10_330 (q_keptR l g ln ext _ μ (50 + 2 * k + 1) _ (by omega) (rsP_K hP (by omega))) (k_60 _ _) ⟨_, rfl, rfl⟩ rfl rfl (Nat.le_of_ble_eq_true rfl) (by decide) (by decide) (by decide) dX10_image_138 (fun z138 L138 μ138 hp => ?_)
          obtain ⟨rfl, rfl, hz138⟩ := hp
          refine tt_iastore X (k_64 _ _) (by first | omega | (simp (disch := decide) only [ot_rd, ot_rs, ot_rf, ot_ucd, ot_ucs]; omega)) dX10_image_141 ?_
          refine tt_gen (fun σ142 hσ142 => ?_)
          replace hP : rsP μ σ142 (50 + 2 * k + 1 + 1) := by rw [hσ142]; exact rsP_set (rsP_K hP (by omega)) (by omega) (show imgP 64 k = 50 + 2 * k + 1 from imgP_64 (by omega)) hz138 (by decide) (by omega)
          refine tt_iinc X dX10_image_142 rfl (by decide) ?_
          refine tt_goto X 105 dX10_image_145 (by decide) ?_
          refine tt_loc [(0, _), (1, _), (2, _)] ⟨rfl, rfl, rfl, trivial⟩ ?_
          refine ih (_, k + 1) ⟨by show 0 ≤ k + 1 ∧ k + 1 ≤ 3; omega, rsP_K hP (by omega)⟩ (by show (3 - (k + 1)).toNat < (3 - k).toNat; omega)
      · refine tt_aload_n X rfl dX10_image_65 ?_
        refine tt_getr X fX10_13 (k_60 _ _) (by decide) ⟨nofun, nofun⟩ rfl dX10_image_66 ?_
        refine tt_iload_n X rfl dX10_image_69 ?_
        refine tt_aload_n X rfl dX10_image_70 ?_
        refine tt_aload_n X rfl dX10_image_71 ?_
        refine tt_getr X fX10_13 (k_60 _ _) (by decide) ⟨nofun, nofun⟩ rfl dX10_image_72 ?_
        refine tt_iload_n X rfl dX10_image_75 ?_
        refine tt_iaload X (k_61 _ _) (by first | omega | (simp (disch := decide) only [ot_rd, ot_rs, ot_rf, ot_ucd, ot_ucs]; omega)) dX10_image_76 ?_
        try simp (disch := decide) only [ot_rd, ot_rs, ot_rf, ot_ucd, ot_ucs]
        refine tt_vi X rfl mX10_330 (q_keptR l g ln ext _ μ (2 + 2 * k) _ (by omega) (rsP_K hP (by omega))) (k_60 _ _) ⟨_, rfl, rfl⟩ rfl rfl (Nat.le_of_ble_eq_true rfl) (by decide) (by decide) (by decide) dX10_image_77 (fun z77 L77 μ77 hp => ?_)
        obtain ⟨rfl, rfl, hz77⟩ := hp
        refine tt_iastore X (k_61 _ _) (by first | omega | (simp (disch := decide) only [ot_rd, ot_rs, ot_rf, ot_ucd, ot_ucs]; omega)) dX10_image_80 ?_
        refine tt_gen (fun σ81 hσ81 => ?_)
        replace hP : rsP μ σ81 (2 + 2 * k + 1) := by rw [hσ81]; exact rsP_set (rsP_K hP (by omega)) (by omega) (show imgP 61 k = 2 + 2 * k from imgP_61 (by omega)) hz77 (by decide) (by omega)
        refine tt_aload_n X rfl dX10_image_81 ?_
        refine tt_getr X fX10_17 (k_60 _ _) (by decide) ⟨nofun, nofun⟩ rfl dX10_image_82 ?_
        refine tt_iload_n X rfl dX10_image_85 ?_
        refine tt_aload_n X rfl dX10_image_86 ?_
        refine tt_aload_n X rfl dX10_image_87 ?_
        refine tt_getr X fX10_17 (k_60 _ _) (by decide) ⟨nofun, nofun⟩ rfl dX10_image_88 ?_
        refine tt_iload_n X rfl dX10_image_91 ?_
        refine tt_iaload X (k_62 _ _) (by first | omega | (simp (disch := decide) only [ot_rd, ot_rs, ot_rf, ot_ucd, ot_ucs]; omega)) dX10_image_92 ?_
        try simp (disch := decide) only [ot_rd, ot_rs, ot_rf, ot_ucd, ot_ucs]
        refine tt_vi X rfl mX10_330 (q_keptR l g ln ext _ μ (2 + 2 * k + 1) _ (by omega) (rsP_K hP (by omega))) (k_60 _ _) ⟨_, rfl, rfl⟩ rfl rfl (Nat.le_of_ble_eq_true rfl) (by decide) (by decide) (by decide) dX10_image_93 (fun z93 L93 μ93 hp => ?_)
        obtain ⟨rfl, rfl, hz93⟩ := hp
        refine tt_iastore X (k_62 _ _) (by first | omega | (simp (disch := decide) only [ot_rd, ot_rs, ot_rf, ot_ucd, ot_ucs]; omega)) dX10_image_96 ?_
        refine tt_gen (fun σ97 hσ97 => ?_)
        replace hP : rsP μ σ97 (2 + 2 * k + 1 + 1) := by rw [hσ97]; exact rsP_set (rsP_K hP (by omega)) (by omega) (show imgP 62 k = 2 + 2 * k + 1 from imgP_62 (by omega)) hz93 (by decide) (by omega)
        refine tt_iinc X dX10_image_97 rfl (by decide) ?_
        refine tt_goto X 59 dX10_image_100 (by decide) ?_
        refine tt_loc [(0, _), (1, _), (2, _)] ⟨rfl, rfl, rfl, trivial⟩ ?_
        refine ih (_, k + 1) ⟨by show 0 ≤ k + 1 ∧ k + 1 ≤ 24; omega, rsP_K hP (by omega)⟩ (by show (24 - (k + 1)).toNat < (24 - k).toNat; omega)
    · exact absurd b13 (by omega)
set_option maxRecDepth 100000 in
set_option maxHeartbeats 1000000 in
theorem q_imageN (l : Launch) (g : ot_G) (ln : Nat) (ext : ot_L) (μ : ot_M) (h0 : μ 60 0 = 0) (hI0 : μ 60 46 = 0) : ot_C l g yX10_image cX10_image 3 (some .boolean) 2 0 0 [.inr 60, .inl 0] (LL ln ext) μ (ot_pi (fun r L2 μ2 => L2 = LL ln ext ∧ r = 0 ∧ μ2 = μ)) := by
  refine ot_enter (by decide) (Nat.le_of_ble_eq_true rfl) ?_
  intro p e s m args below meth c X hr
  refine tt_aload_n X rfl dX10_image_0 ?_
  refine tt_iconst X dX10_image_1 ?_
  refine tt_puti X fX10_98 kc_10 (k_60 _ _) (by decide) (fun q hq => by cases hq; rfl) rfl dX10_image_2 ?_
  refine tt_mem (ot_nop h0) ?_
  refine tt_iload_n X rfl dX10_image_5 ?_
  refine tt_if_ne X 18 (by omega) dX10_image_6 (by decide) (fun b6 => ?_) (fun b6 => ?_)
  · exact absurd rfl b6
  · refine tt_aload_n X rfl dX10_image_9 ?_
    refine tt_geti X fX10_333 (k_60 _ _) (by decide) (Or.inr rfl) dX10_image_10 ?_
    refine tt_if_ne X 18 (by omega) dX10_image_13 (by decide) (fun b13 => ?_) (fun b13 => ?_)
    · exact absurd hI0 (by omega)
    · refine tt_iconst X dX10_image_16 ?_
      refine tt_zret X ⟨hr.1, hr.2.1⟩ (by omega) (by decide) (by decide) dX10_image_17 ?_
      exact ⟨rfl, rfl, rfl⟩

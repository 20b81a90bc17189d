set_option maxRecDepth 100000 in
set_option maxHeartbeats 1000000 in
theorem q_keepsLawT (l : Launch) (g : ot_G) (ln : Nat) (ext : ot_L) (μ : ot_M) (ν : ot_M) (hP : tkP ν μ 841) : ot_C l g yX10_keepsLaw cX10_keepsLaw 2 none 1 0 0 [.inr 60] (LL ln ext) μ (ot_pv (fun L2 μ2 => L2 = LL ln ext ∧ tkP ν μ2 1690)) := by
  refine ot_enter (by decide) (Nat.le_of_ble_eq_true rfl) ?_
  intro p e s m args below meth c X hr
  have he := hP.1
  have he60 := hP.2.1
  refine tt_aload_n X rfl dX10_keepsLaw_0 ?_
  refine tt_aload_n X rfl dX10_keepsLaw_1 ?_
  refine tt_aload_n X rfl dX10_keepsLaw_2 ?_
  refine tt_geti X fX10_114 (k_60 _ _) (by decide) (Or.inl rfl) dX10_keepsLaw_3 ?_
  try simp (disch := decide) only [ot_rd, ot_rs, ot_rf, ot_ucd, ot_ucs, he, he60]
  refine tt_vi X rfl mX10_330 (q_keptT l g ln ext _ ν (841) _ (by omega) (tkP_K hP (by omega)) (by rw [tkP_cell (ν := ν) (show cellOf (841) = (60, 23) from rfl)])) (k_60 _ _) ⟨_, rfl, rfl⟩ rfl rfl (Nat.le_of_ble_eq_true rfl) (by decide) (by decide) (by decide) dX10_keepsLaw_6 (fun z6 L6 μ6 hp => ?_)
  obtain ⟨rfl, hP, hz6⟩ := hp
  refine tt_puti X fX10_114 kc_10 (k_60 _ _) (by decide) (fun q hq => by cases hq; rfl) rfl dX10_keepsLaw_9 ?_
  refine tt_gen (fun σ12 hσ12 => ?_)
  replace hP : tkP ν σ12 (841 + 1) := by rw [hσ12]; exact tkP_set hP (Or.inr (by decide)) hz6
  have he := hP.1
  have he60 := hP.2.1
  refine tt_iconst X dX10_keepsLaw_12 ?_
  refine tt_istore_n X dX10_keepsLaw_13 (by decide) ?_
  refine tt_gen (fun ρ hρ => ?_)
  replace hP : tkP ν ρ (842) := by rw [hρ]; exact tkP_K hP (by omega)
  refine tt_loc [(0, _), (1, _)] ⟨rfl, rfl, trivial⟩ ?_
  refine tt_loop (α := ot_M × Int) (fun ((σ, k)) => (16 - k).toNat) (fun ((σ, k)) => (0 ≤ k ∧ k ≤ 16) ∧ tkP ν σ (842 + 3 * k)) (fun ((σ, k)) => σ) (fun ((σ, k)) => [(0, .inr 60), (1, .inl k)]) (ρ, 0) ⟨by show 0 ≤ (0 : Int) ∧ (0 : Int) ≤ 16; omega, tkP_K hP (by omega)⟩ ?_
  intro a hI ih
  obtain ⟨σ, k⟩ := a
  try dsimp only at hI ih ⊢
  replace hI : (0 ≤ k ∧ k ≤ 16) ∧ tkP ν σ (842 + 3 * k) := hI
  have hk := hI.1
  have hP := hI.2
  have he := hP.1
  have he60 := hP.2.1
  refine tt_iload_n X rfl dX10_keepsLaw_14 ?_
  refine tt_bipush X (by decide) dX10_keepsLaw_15 ?_
  refine tt_icmp_ge X 74 (by first | omega | (simp (disch := decide) only [ot_rd, ot_rs, ot_rf, ot_ucd, ot_ucs, he, he60]; omega)) dX10_keepsLaw_17 (by decide) (fun b17 => ?_) (fun b17 => ?_)
  · refine tt_iconst X dX10_keepsLaw_74 ?_
    refine tt_istore_n X dX10_keepsLaw_75 (by decide) ?_
    refine tt_gen (fun ρ hρ => ?_)
    replace hP : tkP ν ρ (890) := by rw [hρ]; exact tkP_K hP (by omega)
    refine tt_loc [(0, _), (1, _)] ⟨rfl, rfl, trivial⟩ ?_
    refine tt_loop (α := ot_M × Int) (fun ((σ, k)) => (400 - k).toNat) (fun ((σ, k)) => (0 ≤ k ∧ k ≤ 400) ∧ tkP ν σ (890 + 2 * k)) (fun ((σ, k)) => σ) (fun ((σ, k)) => [(0, .inr 60), (1, .inl k)]) (ρ, 0) ⟨by show 0 ≤ (0 : Int) ∧ (0 : Int) ≤ 400; omega, tkP_K hP (by omega)⟩ ?_
    intro a hI ih
    obtain ⟨σ, k⟩ := a
    try dsimp only at hI ih ⊢
    replace hI : (0 ≤ k ∧ k ≤ 400) ∧ tkP ν σ (890 + 2 * k) := hI
    have hk := hI.1
    have hP := hI.2
    have he := hP.1
    have he60 := hP.2.1
    refine tt_iload_n X rfl dX10_keepsLaw_76 ?_
    refine tt_sipush X (by decide) dX10_keepsLaw_77 ?_
    refine tt_icmp_ge X 121 (by first | omega | (simp (disch := decide) only [ot_rd, ot_rs, ot_rf, ot_ucd, ot_ucs, he, he60]; omega)) dX10_keepsLaw_80 (by decide) (fun b80 => ?_) (fun b80 => ?_)
    · refine tt_vret X ⟨hr.1, hr.2.1⟩ (by decide) (by decide) dX10_keepsLaw_121 ?_
      exact ⟨rfl, tkP_K hP (by omega)⟩
    · refine tt_aload_n X rfl dX10_keepsLaw_83 ?_
      refine tt_getr X fX10_62 (k_60 _ _) (by decide) ⟨nofun, nofun⟩ rfl dX10_keepsLaw_84 ?_
      refine tt_iload_n X rfl dX10_keepsLaw_87 ?_
      refine tt_aload_n X rfl dX10_keepsLaw_88 ?_
      refine tt_aload_n X rfl dX10_keepsLaw_89 ?_
      refine tt_getr X fX10_62 (k_60 _ _) (by decide) ⟨nofun, nofun⟩ rfl dX10_keepsLaw_90 ?_
      refine tt_iload_n X rfl dX10_keepsLaw_93 ?_
      refine tt_iaload X (k_77 _ _) (by first | omega | (simp (disch := decide) only [ot_rd, ot_rs, ot_rf, ot_ucd, ot_ucs, he, he60]; omega)) dX10_keepsLaw_94 ?_
      try simp (disch := decide) only [ot_rd, ot_rs, ot_rf, ot_ucd, ot_ucs, he, he60]
      refine tt_vi X rfl mX10_330 (q_keptT l g ln ext _ ν (890 + 2 * k) _ (by omega) (tkP_K hP (by omega)) (by rw [tkP_cell (ν := ν) (show cellOf (890 + 2 * k) = (77, k) from cell_77 (by omega))])) (k_60 _ _) ⟨_, rfl, rfl⟩ rfl rfl (Nat.le_of_ble_eq_true rfl) (by decide) (by decide) (by decide) dX10_keepsLaw_95 (fun z95 L95 μ95 hp => ?_)
      obtain ⟨rfl, hP, hz95⟩ := hp
      refine tt_iastore X (k_77 _ _) (by first | omega | (simp (disch := decide) only [ot_rd, ot_rs, ot_rf, ot_ucd, ot_ucs, he, he60]; omega)) dX10_keepsLaw_98 ?_
      refine tt_gen (fun σ99 hσ99 => ?_)
      replace hP : tkP ν σ99 (890 + 2 * k + 1) := by rw [hσ99]; exact tkP_set hP (Or.inl (by decide)) hz95
      have he := hP.1
      have he60 := hP.2.1
      refine tt_aload_n X rfl dX10_keepsLaw_99 ?_
      refine tt_getr X fX10_65 (k_60 _ _) (by decide) ⟨nofun, nofun⟩ rfl dX10_keepsLaw_100 ?_
      refine tt_iload_n X rfl dX10_keepsLaw_103 ?_
      refine tt_aload_n X rfl dX10_keepsLaw_104 ?_
      refine tt_aload_n X rfl dX10_keepsLaw_105 ?_
      refine tt_getr X fX10_65 (k_60 _ _) (by decide) ⟨nofun, nofun⟩ rfl dX10_keepsLaw_106 ?_
      refine tt_iload_n X rfl dX10_keepsLaw_109 ?_
      refine tt_iaload X (k_78 _ _) (by first | omega | (simp (disch := decide) only [ot_rd, ot_rs, ot_rf, ot_ucd, ot_ucs, he, he60]; omega)) dX10_keepsLaw_110 ?_
      try simp (disch := decide) only [ot_rd, ot_rs, ot_rf, ot_ucd, ot_ucs, he, he60]
      refine tt_vi X rfl mX10_330 (q_keptT l g ln ext _ ν (890 + 2 * k + 1) _ (by omega) (tkP_K hP (by omega)) (by rw [tkP_cell (ν := ν) (show cellOf (890 + 2 * k + 1) = (78, k) from cell_78 (by omega))])) (k_60 _ _) ⟨_, rfl, rfl⟩ rfl rfl (Nat.le_of_ble_eq_true rfl) (by decide) (by decide) (by decide) dX10_keepsLaw_111 (fun z111 L111 μ111 hp => ?_)
      obtain ⟨rfl, hP, hz111⟩ := hp
      refine tt_iastore X (k_78 _ _) (by first | omega | (simp (disch := decide) only [ot_rd, ot_rs, ot_rf, ot_ucd, ot_ucs, he, he60]; omega)) dX10_keepsLaw_114 ?_
      refine tt_gen (fun σ115 hσ115 => ?_)
      replace hP : tkP ν σ115 (890 + 2 * k + 1 + 1) := by rw [hσ115]; exact tkP_set hP (Or.inl (by decide)) hz111
      have he := hP.1
      have he60 := hP.2.1
      refine tt_iinc X dX10_keepsLaw_115 rfl (by decide) ?_
      refine tt_goto X 76 dX10_keepsLaw_118 (by decide) ?_
      refine tt_loc [(0, _), (1, _)] ⟨rfl, rfl, trivial⟩ ?_
      refine ih (_, k + 1) ⟨by show 0 ≤ k + 1 ∧ k + 1 ≤ 400; omega, tkP_K hP (by omega)⟩ (by show (400 - (k + 1)).toNat < (400 - k).toNat; omega)
  · refine tt_aload_n X rfl dX10_keepsLaw_20 ?_
    refine tt_getr X fX10_53 (k_60 _ _) (by decide) ⟨nofun, nofun⟩ rfl dX10_keepsLaw_21 ?_
    refine tt_iload_n X rfl dX10_keepsLaw_24 ?_
    refine tt_aload_n X rfl dX10_keepsLaw_25 ?_
    refine tt_aload_n X rfl dX10_keepsLaw_26 ?_
    refine tt_getr X fX10_53 (k_60 _ _) (by decide) ⟨nofun, nofun⟩ rfl dX10_keepsLaw_27 ?_
    refine tt_iload_n X rfl dX10_keepsLaw_30 ?_
    refine tt_iaload X (k_74 _ _) (by first | omega | (simp (disch := decide) only [ot_rd, ot_rs, ot_rf, ot_ucd, ot_ucs, he, he60]; omega)) dX10_keepsLaw_31 ?_
    try simp (disch := decide) only [ot_rd, ot_rs, ot_rf, ot_ucd, ot_ucs, he, he60]
    refine tt_vi X rfl mX10_330 (q_keptT l g ln ext _ ν (842 + 3 * k) _ (by omega) (tkP_K hP (by omega)) (by rw [tkP_cell (ν := ν) (show cellOf (842 + 3 * k) = (74, k) from cell_74 (by omega))])) (k_60 _ _) ⟨_, rfl, rfl⟩ rfl rfl (Nat.le_of_ble_eq_true rfl) (by decide) (by decide) (by decide) dX10_keepsLaw_32 (fun z32 L32 μ32 hp => ?_)
    obtain ⟨rfl, hP, hz32⟩ := hp
    refine tt_iastore X (k_74 _ _) (by first | omega | (simp (disch := decide) only [ot_rd, ot_rs, ot_rf, ot_ucd, ot_ucs, he, he60]; omega)) dX10_keepsLaw_35 ?_
    refine tt_gen (fun σ36 hσ36 => ?_)
    replace hP : tkP ν σ36 (842 + 3 * k + 1) := by rw [hσ36]; exact tkP_set hP (Or.inl (by decide)) hz32
    have he := hP.1
    have he60 := hP.2.1
    refine tt_aload_n X rfl dX10_keepsLaw_36 ?_
    refine tt_getr X fX10_56 (k_60 _ _) (by decide) ⟨nofun, nofun⟩ rfl dX10_keepsLaw_37 ?_
    refine tt_iload_n X rfl dX10_keepsLaw_40 ?_
    refine tt_aload_n X rfl dX10_keepsLaw_41 ?_
    refine tt_aload_n X rfl dX10_keepsLaw_42 ?_
    refine tt_getr X fX10_56 (k_60 _ _) (by decide) ⟨nofun, nofun⟩ rfl dX10_keepsLaw_43 ?_
    refine tt_iload_n X rfl dX10_keepsLaw_46 ?_
    refine tt_iaload X (k_75 _ _) (by first | omega | (simp (disch := decide) only [ot_rd, ot_rs, ot_rf, ot_ucd, ot_ucs, he, he60]; omega)) dX10_keepsLaw_47 ?_
    try simp (disch := decide) only [ot_rd, ot_rs, ot_rf, ot_ucd, ot_ucs, he, he60]
    refine tt_vi X rfl mX10_330 (q_keptT l g ln ext _ ν (842 + 3 * k + 1) _ (by omega) (tkP_K hP (by omega)) (by rw [tkP_cell (ν := ν) (show cellOf (842 + 3 * k + 1) = (75, k) from cell_75 (by omega))])) (k_60 _ _) ⟨_, rfl, rfl⟩ rfl rfl (Nat.le_of_ble_eq_true rfl) (by decide) (by decide) (by decide) dX10_keepsLaw_48 (fun z48 L48 μ48 hp => ?_)
    obtain ⟨rfl, hP, hz48⟩ := hp
    refine tt_iastore X (k_75 _ _) (by first | omega | (simp (disch := decide) only [ot_rd, ot_rs, ot_rf, ot_ucd, ot_ucs, he, he60]; omega)) dX10_keepsLaw_51 ?_
    refine tt_gen (fun σ52 hσ52 => ?_)
    replace hP : tkP ν σ52 (842 + 3 * k + 1 + 1) := by rw [hσ52]; exact tkP_set hP (Or.inl (by decide)) hz48
    have he := hP.1
    have he60 := hP.2.1
    refine tt_aload_n X rfl dX10_keepsLaw_52 ?_
    refine tt_getr X fX10_59 (k_60 _ _) (by decide) ⟨nofun, nofun⟩ rfl dX10_keepsLaw_53 ?_
    refine tt_iload_n X rfl dX10_keepsLaw_56 ?_
    refine tt_aload_n X rfl dX10_keepsLaw_57 ?_
    refine tt_aload_n X rfl dX10_keepsLaw_58 ?_
    refine tt_getr X fX10_59 (k_60 _ _) (by decide) ⟨nofun, nofun⟩ rfl dX10_keepsLaw_59 ?_
    refine tt_iload_n X rfl dX10_keepsLaw_62 ?_
    refine tt_iaload X (k_76 _ _) (by first | omega | (simp (disch := decide) only [ot_rd, ot_rs, ot_rf, ot_ucd, ot_ucs, he, he60]; omega)) dX10_keepsLaw_63 ?_
    try simp (disch := decide) only [ot_rd, ot_rs, ot_rf, ot_ucd, ot_ucs, he, he60]
    refine tt_vi X rfl mX10_330 (q_keptT l g ln ext _ ν (842 + 3 * k + 2) _ (by omega) (tkP_K hP (by omega)) (by rw [tkP_cell (ν := ν) (show cellOf (842 + 3 * k + 2) = (76, k) from cell_76 (by omega))])) (k_60 _ _) ⟨_, rfl, rfl⟩ rfl rfl (Nat.le_of_ble_eq_true rfl) (by decide) (by decide) (by decide) dX10_keepsLaw_64 (fun z64 L64 μ64 hp => ?_)
    obtain ⟨rfl, hP, hz64⟩ := hp
    refine tt_iastore X (k_76 _ _) (by first | omega | (simp (disch := decide) only [ot_rd, ot_rs, ot_rf, ot_ucd, ot_ucs, he, he60]; omega)) dX10_keepsLaw_67 ?_
    refine tt_gen (fun σ68 hσ68 => ?_)
    replace hP : tkP ν σ68 (842 + 3 * k + 2 + 1) := by rw [hσ68]; exact tkP_set hP (Or.inl (by decide)) hz64
    have he := hP.1
    have he60 := hP.2.1
    refine tt_iinc X dX10_keepsLaw_68 rfl (by decide) ?_
    refine tt_goto X 14 dX10_keepsLaw_71 (by decide) ?_
    refine tt_loc [(0, _), (1, _)] ⟨rfl, rfl, trivial⟩ ?_
    refine ih (_, k + 1) ⟨by show 0 ≤ k + 1 ∧ k + 1 ≤ 16; omega, tkP_K hP (by omega)⟩ (by show (16 - (k + 1)).toNat < (16 - k).toNat; omega)
set_option maxRecDepth 100000 in
set_option maxHeartbeats 1000000 in
theorem q_keepsLawR (l : Launch) (g : ot_G) (ln : Nat) (ext : ot_L) (μ : ot_M) (ν : ot_M) (hP : rsP ν μ 841) : ot_C l g yX10_keepsLaw cX10_keepsLaw 2 none 1 0 0 [.inr 60] (LL ln ext) μ (ot_pv (fun L2 μ2 => L2 = LL ln ext ∧ rsP ν μ2 1690)) := by
  refine ot_enter (by decide) (Nat.le_of_ble_eq_true rfl) ?_
  intro p e s m args below meth c X hr
  refine tt_aload_n X rfl dX10_keepsLaw_0 ?_
  refine tt_aload_n X rfl dX10_keepsLaw_1 ?_
  refine tt_aload_n X rfl dX10_keepsLaw_2 ?_
  refine tt_geti X fX10_114 (k_60 _ _) (by decide) (Or.inl rfl) dX10_keepsLaw_3 ?_
  refine tt_vi X rfl mX10_330 (q_keptR l g ln ext _ ν (841) _ (by omega) (rsP_K hP (by omega))) (k_60 _ _) ⟨_, rfl, rfl⟩ rfl rfl (Nat.le_of_ble_eq_true rfl) (by decide) (by decide) (by decide) dX10_keepsLaw_6 (fun z6 L6 μ6 hp => ?_)
  obtain ⟨rfl, rfl, hz6⟩ := hp
  refine tt_puti X fX10_114 kc_10 (k_60 _ _) (by decide) (fun q hq => by cases hq; rfl) rfl dX10_keepsLaw_9 ?_
  refine tt_gen (fun σ12 hσ12 => ?_)
  replace hP : rsP ν σ12 (841 + 1) := by rw [hσ12]; exact rsP_set (rsP_K hP (by omega)) (by omega) (show imgP 60 23 = 841 from rfl) hz6 (by decide) (by decide)
  refine tt_iconst X dX10_keepsLaw_12 ?_
  refine tt_istore_n X dX10_keepsLaw_13 (by decide) ?_
  refine tt_gen (fun ρ hρ => ?_)
  replace hP : rsP ν ρ (842) := by rw [hρ]; exact rsP_K hP (by omega)
  refine tt_loc [(0, _), (1, _)] ⟨rfl, rfl, trivial⟩ ?_
  refine tt_loop (α := ot_M × Int) (fun ((σ, k)) => (16 - k).toNat) (fun ((σ, k)) => (0 ≤ k ∧ k ≤ 16) ∧ rsP ν σ (842 + 3 * k)) (fun ((σ, k)) => σ) (fun ((σ, k)) => [(0, .inr 60), (1, .inl k)]) (ρ, 0) ⟨by show 0 ≤ (0 : Int) ∧ (0 : Int) ≤ 16; omega, rsP_K hP (by omega)⟩ ?_
  intro a hI ih
  obtain ⟨σ, k⟩ := a
  try dsimp only at hI ih ⊢
  replace hI : (0 ≤ k ∧ k ≤ 16) ∧ rsP ν σ (842 + 3 * k) := hI
  have hk := hI.1
  have hP := hI.2
  refine tt_iload_n X rfl dX10_keepsLaw_14 ?_
  refine tt_bipush X (by decide) dX10_keepsLaw_15 ?_
  refine tt_icmp_ge X 74 (by first | omega | (simp (disch := decide) only [ot_rd, ot_rs, ot_rf, ot_ucd, ot_ucs]; omega)) dX10_keepsLaw_17 (by decide) (fun b17 => ?_) (fun b17 => ?_)
  · refine tt_iconst X dX10_keepsLaw_74 ?_
    refine tt_istore_n X dX10_keepsLaw_75 (by decide) ?_
    refine tt_gen (fun ρ hρ => ?_)
    replace hP : rsP ν ρ (890) := by rw [hρ]; exact rsP_K hP (by omega)
    refine tt_loc [(0, _), (1, _)] ⟨rfl, rfl, trivial⟩ ?_
    refine tt_loop (α := ot_M × Int) (fun ((σ, k)) => (400 - k).toNat) (fun ((σ, k)) => (0 ≤ k ∧ k ≤ 400) ∧ rsP ν σ (890 + 2 * k)) (fun ((σ, k)) => σ) (fun ((σ, k)) => [(0, .inr 60), (1, .inl k)]) (ρ, 0) ⟨by show 0 ≤ (0 : Int) ∧ (0 : Int) ≤ 400; omega, rsP_K hP (by omega)⟩ ?_
    intro a hI ih
    obtain ⟨σ, k⟩ := a
    try dsimp only at hI ih ⊢
    replace hI : (0 ≤ k ∧ k ≤ 400) ∧ rsP ν σ (890 + 2 * k) := hI
    have hk := hI.1
    have hP := hI.2
    refine tt_iload_n X rfl dX10_keepsLaw_76 ?_
    refine tt_sipush X (by decide) dX10_keepsLaw_77 ?_
    refine tt_icmp_ge X 121 (by first | omega | (simp (disch := decide) only [ot_rd, ot_rs, ot_rf, ot_ucd, ot_ucs]; omega)) dX10_keepsLaw_80 (by decide) (fun b80 => ?_) (fun b80 => ?_)
    · refine tt_vret X ⟨hr.1, hr.2.1⟩ (by decide) (by decide) dX10_keepsLaw_121 ?_
      exact ⟨rfl, rsP_K hP (by omega)⟩
    · refine tt_aload_n X rfl dX10_keepsLaw_83 ?_
      refine tt_getr X fX10_62 (k_60 _ _) (by decide) ⟨nofun, nofun⟩ rfl dX10_keepsLaw_84 ?_
      refine tt_iload_n X rfl dX10_keepsLaw_87 ?_
      refine tt_aload_n X rfl dX10_keepsLaw_88 ?_
      refine tt_aload_n X rfl dX10_keepsLaw_89 ?_
      refine tt_getr X fX10_62 (k_60 _ _) (by decide) ⟨nofun, nofun⟩ rfl dX10_keepsLaw_90 ?_
      refine tt_iload_n X rfl dX10_keepsLaw_93 ?_
      refine tt_iaload X (k_77 _ _) (by first | omega | (simp (disch := decide) only [ot_rd, ot_rs, ot_rf, ot_ucd, ot_ucs]; omega)) dX10_keepsLaw_94 ?_
      try simp (disch := decide) only [ot_rd, ot_rs, ot_rf, ot_ucd, ot_ucs]
      refine tt_vi X rfl mX10_330 (q_keptR l g ln ext _ ν (890 + 2 * k) _ (by omega) (rsP_K hP (by omega))) (k_60 _ _) ⟨_, rfl, rfl⟩ rfl rfl (Nat.le_of_ble_eq_true rfl) (by decide) (by decide) (by decide) dX10_keepsLaw_95 (fun z95 L95 μ95 hp => ?_)
      obtain ⟨rfl, rfl, hz95⟩ := hp
      refine tt_iastore X (k_77 _ _) (by first | omega | (simp (disch := decide) only [ot_rd, ot_rs, ot_rf, ot_ucd, ot_ucs]; omega)) dX10_keepsLaw_98 ?_
      refine tt_gen (fun σ99 hσ99 => ?_)
      replace hP : rsP ν σ99 (890 + 2 * k + 1) := by rw [hσ99]; exact rsP_set (rsP_K hP (by omega)) (by omega) (show imgP 77 k = 890 + 2 * k from imgP_77 (by omega)) hz95 (by decide) (by omega)
      refine tt_aload_n X rfl dX10_keepsLaw_99 ?_
      refine tt_getr X fX10_65 (k_60 _ _) (by decide) ⟨nofun, nofun⟩ rfl dX10_keepsLaw_100 ?_
      refine tt_iload_n X rfl dX10_keepsLaw_103 ?_
      refine tt_aload_n X rfl dX10_keepsLaw_104 ?_
      refine tt_aload_n X rfl dX10_keepsLaw_105 ?_
      refine tt_getr X fX10_65 (k_60 _ _) (by decide) ⟨nofun, nofun⟩ rfl dX10_keepsLaw_106 ?_
      refine tt_iload_n X rfl dX10_keepsLaw_109 ?_
      refine tt_iaload X (k_78 _ _) (by first | omega | (simp (disch := decide) only [ot_rd, ot_rs, ot_rf, ot_ucd, ot_ucs]; omega)) dX10_keepsLaw_110 ?_
      try simp (disch := decide) only [ot_rd, ot_rs, ot_rf, ot_ucd, ot_ucs]
      refine tt_vi X rfl mX10_330 (q_keptR l g ln ext _ ν (890 + 2 * k + 1) _ (by omega) (rsP_K hP (by omega))) (k_60 _ _) ⟨_, rfl, rfl⟩ rfl rfl (Nat.le_of_ble_eq_true rfl) (by decide) (by decide) (by decide) dX10_keepsLaw_111 (fun z111 L111 μ111 hp => ?_)
      obtain ⟨rfl, rfl, hz111⟩ := hp
      refine tt_iastore X (k_78 _ _) (by first | omega | (simp (disch := decide) only [ot_rd, ot_rs, ot_rf, ot_ucd, ot_ucs]; omega)) dX10_keepsLaw_114 ?_
      refine tt_gen (fun σ115 hσ115 => ?_)
      replace hP : rsP ν σ115 (890 + 2 * k + 1 + 1) := by rw [hσ115]; exact rsP_set (rsP_K hP (by omega)) (by omega) (show imgP 78 k = 890 + 2 * k + 1 from imgP_78 (by omega)) hz111 (by decide) (by omega)
      refine tt_iinc X dX10_keepsLaw_115 rfl (by decide) ?_
      refine tt_goto X 76 dX10_keepsLaw_118 (by decide) ?_
      refine tt_loc [(0, _), (1, _)] ⟨rfl, rfl, trivial⟩ ?_
      refine ih (_, k + 1) ⟨by show 0 ≤ k + 1 ∧ k + 1 ≤ 400; omega, rsP_K hP (by omega)⟩ (by show (400 - (k + 1)).toNat < (400 - k).toNat; omega)
  · refine tt_aload_n X rfl dX10_keepsLaw_20 ?_
    refine tt_getr X fX10_53 (k_60 _ _) (by decide) ⟨nofun, nofun⟩ rfl dX10_keepsLaw_21 ?_
    refine tt_iload_n X rfl dX10_keepsLaw_24 ?_
    refine tt_aload_n X rfl dX10_keepsLaw_25 ?_
    refine tt_aload_n X rfl dX10_keepsLaw_26 ?_
    refine tt_getr X fX10_53 (k_60 _ _) (by decide) ⟨nofun, nofun⟩ rfl dX10_keepsLaw_27 ?_
    refine tt_iload_n X rfl dX10_keepsLaw_30 ?_
    refine tt_iaload X (k_74 _ _) (by first | omega | (simp (disch := decide) only [ot_rd, ot_rs, ot_rf, ot_ucd, ot_ucs]; omega)) dX10_keepsLaw_31 ?_
    try simp (disch := decide) only [ot_rd, ot_rs, ot_rf, ot_ucd, ot_ucs]
    refine tt_vi X rfl mX10_330 (q_keptR l g ln ext _ ν (842 + 3 * k) _ (by omega) (rsP_K hP (by omega))) (k_60 _ _) ⟨_, rfl, rfl⟩ rfl rfl (Nat.le_of_ble_eq_true rfl) (by decide) (by decide) (by decide) dX10_keepsLaw_32 (fun z32 L32 μ32 hp => ?_)
    obtain ⟨rfl, rfl, hz32⟩ := hp
    refine tt_iastore X (k_74 _ _) (by first | omega | (simp (disch := decide) only [ot_rd, ot_rs, ot_rf, ot_ucd, ot_ucs]; omega)) dX10_keepsLaw_35 ?_
    refine tt_gen (fun σ36 hσ36 => ?_)
    replace hP : rsP ν σ36 (842 + 3 * k + 1) := by rw [hσ36]; exact rsP_set (rsP_K hP (by omega)) (by omega) (show imgP 74 k = 842 + 3 * k from imgP_74 (by omega)) hz32 (by decide) (by omega)
    refine tt_aload_n X rfl dX10_keepsLaw_36 ?_
    refine tt_getr X fX10_56 (k_60 _ _) (by decide) ⟨nofun, nofun⟩ rfl dX10_keepsLaw_37 ?_
    refine tt_iload_n X rfl dX10_keepsLaw_40 ?_
    refine tt_aload_n X rfl dX10_keepsLaw_41 ?_
    refine tt_aload_n X rfl dX10_keepsLaw_42 ?_
    refine tt_getr X fX10_56 (k_60 _ _) (by decide) ⟨nofun, nofun⟩ rfl dX10_keepsLaw_43 ?_
    refine tt_iload_n X rfl dX10_keepsLaw_46 ?_
    refine tt_iaload X (k_75 _ _) (by first | omega | (simp (disch := decide) only [ot_rd, ot_rs, ot_rf, ot_ucd, ot_ucs]; omega)) dX10_keepsLaw_47 ?_
    try simp (disch := decide) only [ot_rd, ot_rs, ot_rf, ot_ucd, ot_ucs]
    refine tt_vi X rfl mX10_330 (q_keptR l g ln ext _ ν (842 + 3 * k + 1) _ (by omega) (rsP_K hP (by omega))) (k_60 _ _) ⟨_, rfl, rfl⟩ rfl rfl (Nat.le_of_ble_eq_true rfl) (by decide) (by decide) (by decide) dX10_keepsLaw_48 (fun z48 L48 μ48 hp => ?_)
    obtain ⟨rfl, rfl, hz48⟩ := hp
    refine tt_iastore X (k_75 _ _) (by first | omega | (simp (disch := decide) only [ot_rd, ot_rs, ot_rf, ot_ucd, ot_ucs]; omega)) dX10_keepsLaw_51 ?_
    refine tt_gen (fun σ52 hσ52 => ?_)
    replace hP : rsP ν σ52 (842 + 3 * k + 1 + 1) := by rw [hσ52]; exact rsP_set (rsP_K hP (by omega)) (by omega) (show imgP 75 k = 842 + 3 * k + 1 from imgP_75 (by omega)) hz48 (by decide) (by omega)
    refine tt_aload_n X rfl dX10_keepsLaw_52 ?_
    refine tt_getr X fX10_59 (k_60 _ _) (by decide) ⟨nofun, nofun⟩ rfl dX10_keepsLaw_53 ?_
    refine tt_iload_n X rfl dX10_keepsLaw_56 ?_
    refine tt_aload_n X rfl dX10_keepsLaw_57 ?_
    refine tt_aload_n X rfl dX10_keepsLaw_58 ?_
    refine tt_getr X fX10_59 (k_60 _ _) (by decide) ⟨nofun, nofun⟩ rfl dX10_keepsLaw_59 ?_
    refine tt_iload_n X rfl dX10_keepsLaw_62 ?_
    refine tt_iaload X (k_76 _ _) (by first | omega | (simp (disch := decide) only [ot_rd, ot_rs, ot_rf, ot_ucd, ot_ucs]; omega)) dX10_keepsLaw_63 ?_
    try simp (disch := decide) only [ot_rd, ot_rs, ot_rf, ot_ucd, ot_ucs]
    refine tt_vi X rfl mX10_330 (q_keptR l g ln ext _ ν (842 + 3 * k + 2) _ (by omega) (rsP_K hP (by omega))) (k_60 _ _) ⟨_, rfl, rfl⟩ rfl rfl (Nat.le_of_ble_eq_true rfl) (by decide) (by decide) (by decide) dX10_keepsLaw_64 (fun z64 L64 μ64 hp => ?_)
    obtain ⟨rfl, rfl, hz64⟩ := hp
    refine tt_iastore X (k_76 _ _) (by first | omega | (simp (disch := decide) only [ot_rd, ot_rs, ot_rf, ot_ucd, ot_ucs]; omega)) dX10_keepsLaw_67 ?_
    refine tt_gen (fun σ68 hσ68 => ?_)
    replace hP : rsP ν σ68 (842 + 3 * k + 2 + 1) := by rw [hσ68]; exact rsP_set (rsP_K hP (by omega)) (by omega) (show imgP 76 k = 842 + 3 * k + 2 from imgP_76 (by omega)) hz64 (by decide) (by omega)
    refine tt_iinc X dX10_keepsLaw_68 rfl (by decide) ?_
    refine tt_goto X 14 dX10_keepsLaw_71 (by decide) ?_
    refine tt_loc [(0, _), (1, _)] ⟨rfl, rfl, trivial⟩ ?_
    refine ih (_, k + 1) ⟨by show 0 ≤ k + 1 ∧ k + 1 ≤ 16; omega, rsP_K hP (by omega)⟩ (by show (16 - (k + 1)).toNat < (16 - k).toNat; omega)

theorem ot_uc4 {μ : ot_M} {a b : Nat} {f f2 h h2 : Int → Int} (hab : a ≠ b) : ot_uc (ot_uc (ot_uc (ot_uc μ a f) b h) a f2) b h2 = ot_uc (ot_uc μ a f2) b h2 := by
  funext k j
  by_cases h1 : k = a
  · subst h1; simp [ot_uc, hab]
  · by_cases h2 : k = b <;> simp [ot_uc, h1, h2]
theorem ot_uc2 {μ : ot_M} {a : Nat} {f f2 : Int → Int} : ot_uc (ot_uc μ a f) a f2 = ot_uc μ a f2 := by
  funext k j
  by_cases h1 : k = a <;> simp [ot_uc, h1]
theorem ot_ucc {μ : ot_M} {a b : Nat} {f h : Int → Int} (hab : a ≠ b) : ot_uc (ot_uc μ a f) b h = ot_uc (ot_uc μ b h) a f := by
  funext k j
  by_cases h1 : k = a
  · subst h1; simp [ot_uc, hab]
  · by_cases h2 : k = b
    · subst h2; simp [ot_uc, h1]
    · simp [ot_uc, h1, h2]
set_option maxRecDepth 100000 in
set_option maxHeartbeats 1000000 in
theorem q_darkens (l : Launch) (g : ot_G) (ln : Nat) (ext : ot_L) (μ : ot_M) (a b x : Int) (hG : gPin (μ 60 1) (μ 60 2) (μ 61) (μ 62)) (ha : 0 ≤ a ∧ a < μ 60 2) (hb : 0 ≤ b ∧ b < μ 60 2) (hab : a ≠ b)  : ot_C l g yX10_darkens cX10_darkens 5 none 3 0 0 [.inr 60, .inl a, .inl b, .inl x] (LL ln ext) μ (ot_pv (fun L2 μ2 => L2 = LL ln ext ∧ μ2 = ot_uc (ot_uc μ 82 (wr 64 (μ 82) (smp (μ 60 1) (μ 61) (μ 62) a b))) 83 (wr 64 (μ 83) (fun k => μ 83 k + x * smp (μ 60 1) (μ 61) (μ 62) a b k)))) := by
  refine ot_enter (by decide) (Nat.le_of_ble_eq_true rfl) ?_
  intro p e s m args below meth c X hr
  refine tt_aload_n X rfl dX10_darkens_0 ?_
  refine tt_iload_n X rfl dX10_darkens_1 ?_
  refine tt_iload_n X rfl dX10_darkens_2 ?_
  refine tt_vv X rfl mX10_236 (q_findsSamples l g ln ext _ _ _ hG ha hb hab) (k_60 _ _) ⟨_, rfl, rfl⟩ rfl rfl (Nat.le_of_ble_eq_true rfl) (by decide) (by decide) (by decide) dX10_darkens_3 (fun L3 μ3 hp => ?_)
  obtain ⟨rfl, rfl⟩ := hp
  refine tt_iconst X dX10_darkens_6 ?_
  refine tt_istore X dX10_darkens_7 (by decide) ?_
  refine tt_mem (μ' := ot_uc (ot_uc μ 82 (wr 64 (μ 82) (smp (μ 60 1) (μ 61) (μ 62) a b))) 83 (wr 0 (μ 83) (fun k => μ 83 k + x * smp (μ 60 1) (μ 61) (μ 62) a b k))) (by rw [wr_zero, show ∀ f, ot_uc (ot_uc μ 82 f) 83 (μ 83) = ot_uc μ 82 f from fun f => by rw [ot_ucc (by decide), ot_uc_self]]) ?_
  refine tt_loc [(0, _), (3, _), (4, _)] ⟨rfl, rfl, rfl, trivial⟩ ?_
  refine tt_loop (α := Int) (fun k => (64 - k).toNat) (fun k => 0 ≤ k ∧ k ≤ 64) (fun k => ot_uc (ot_uc μ 82 (wr 64 (μ 82) (smp (μ 60 1) (μ 61) (μ 62) a b))) 83 (wr k (μ 83) (fun k => μ 83 k + x * smp (μ 60 1) (μ 61) (μ 62) a b k))) (fun k => [(0, .inr 60), (3, .inl x), (4, .inl k)]) 0 (by omega) ?_
  intro k hI ih
  try dsimp only at hI ih ⊢
  refine tt_iload X rfl dX10_darkens_9 ?_
  refine tt_bipush X (by decide) dX10_darkens_11 ?_
  refine tt_icmp_ge X 46 (by first | omega | (simp (disch := decide) only [ot_rd, ot_rs, ot_rf, ot_ucd, ot_ucs]; omega)) dX10_darkens_13 (by decide) (fun b13 => ?_) (fun b13 => ?_)
  · refine tt_vret X ⟨hr.1, hr.2.1⟩ (by decide) (by decide) dX10_darkens_46 ?_
    refine ⟨rfl, ?_⟩
    rw [show k = 64 by omega]
  · refine tt_aload_n X rfl dX10_darkens_16 ?_
    refine tt_getr X fX10_83 (k_60 _ _) (by decide) ⟨nofun, nofun⟩ rfl dX10_darkens_17 ?_
    refine tt_iload X rfl dX10_darkens_20 ?_
    refine tt_aload_n X rfl dX10_darkens_22 ?_
    refine tt_getr X fX10_83 (k_60 _ _) (by decide) ⟨nofun, nofun⟩ rfl dX10_darkens_23 ?_
    refine tt_iload X rfl dX10_darkens_26 ?_
    refine tt_iaload X (k_83 _ _) (by first | omega | (simp (disch := decide) only [ot_rd, ot_rs, ot_rf, ot_ucd, ot_ucs]; omega)) dX10_darkens_28 ?_
    try simp (disch := decide) only [ot_rd, ot_rs, ot_rf, ot_ucd, ot_ucs]
    refine tt_iload_n X rfl dX10_darkens_29 ?_
    refine tt_aload_n X rfl dX10_darkens_30 ?_
    refine tt_getr X fX10_80 (k_60 _ _) (by decide) ⟨nofun, nofun⟩ rfl dX10_darkens_31 ?_
    refine tt_iload X rfl dX10_darkens_34 ?_
    refine tt_iaload X (k_82 _ _) (by first | omega | (simp (disch := decide) only [ot_rd, ot_rs, ot_rf, ot_ucd, ot_ucs]; omega)) dX10_darkens_36 ?_
    try simp (disch := decide) only [ot_rd, ot_rs, ot_rf, ot_ucd, ot_ucs]
    refine tt_imul X dX10_darkens_37 ?_
    refine tt_iadd X dX10_darkens_38 ?_
    refine tt_iastore X (k_83 _ _) (by first | omega | (simp (disch := decide) only [ot_rd, ot_rs, ot_rf, ot_ucd, ot_ucs]; omega)) dX10_darkens_39 ?_
    refine tt_iinc X dX10_darkens_40 rfl (by decide) ?_
    refine tt_goto X 9 dX10_darkens_43 (by decide) ?_
    refine tt_loc [(0, _), (3, _), (4, _)] ⟨rfl, rfl, rfl, trivial⟩ ?_
    refine tt_mem (μ' := ot_uc (ot_uc μ 82 (wr 64 (μ 82) (smp (μ 60 1) (μ 61) (μ 62) a b))) 83 (wr (k + 1) (μ 83) (fun k => μ 83 k + x * smp (μ 60 1) (μ 61) (μ 62) a b k))) (ot_uc_wr hI.1 (by rw [wr_out (by omega), wr_in (by omega)])) ?_
    exact ih (k + 1) (by omega) (by omega)
set_option maxRecDepth 100000 in
set_option maxHeartbeats 1000000 in
theorem q_findsDark (l : Launch) (g : ot_G) (ln : Nat) (ext : ot_L) (μ : ot_M) (hG : gPin (μ 60 1) (μ 60 2) (μ 61) (μ 62)) (hW : gWnd (μ 60 2) (μ 64) (μ 65))  : ot_C l g yX10_findsDark cX10_findsDark 3 none 4 0 0 [.inr 60] (LL ln ext) μ (ot_pv (fun L2 μ2 => L2 = LL ln ext ∧ ∃ f, μ2 = ot_uc (ot_uc μ 82 f) 83 (wr 64 (μ 83) (dk (μ 60 1) (μ 61) (μ 62) (μ 64) (μ 65) (μ 63))))) := by
  refine ot_enter (by decide) (Nat.le_of_ble_eq_true rfl) ?_
  intro p e s m args below meth c X hr
  refine tt_iconst X dX10_findsDark_0 ?_
  refine tt_istore_n X dX10_findsDark_1 (by decide) ?_
  refine tt_mem (μ' := ot_uc μ 83 (wr 0 (μ 83) (fun _ => 0))) (by rw [wr_zero, ot_uc_self]) ?_
  refine tt_loc [(0, _), (1, _)] ⟨rfl, rfl, trivial⟩ ?_
  refine tt_loop (α := Int) (fun k => (64 - k).toNat) (fun k => 0 ≤ k ∧ k ≤ 64) (fun k => ot_uc μ 83 (wr k (μ 83) (fun _ => 0))) (fun k => [(0, .inr 60), (1, .inl k)]) 0 (by omega) ?_
  intro k hI ih
  try dsimp only at hI ih ⊢
  refine tt_iload_n X rfl dX10_findsDark_2 ?_
  refine tt_bipush X (by decide) dX10_findsDark_3 ?_
  refine tt_icmp_ge X 21 (by first | omega | (simp (disch := decide) only [ot_rd, ot_rs, ot_rf, ot_ucd, ot_ucs]; omega)) dX10_findsDark_5 (by decide) (fun b5 => ?_) (fun b5 => ?_)
  · refine tt_iconst X dX10_findsDark_21 ?_
    refine tt_istore_n X dX10_findsDark_22 (by decide) ?_
    refine tt_mem (μ' := ot_uc (ot_uc μ 82 (μ 82)) 83 (wr 64 (μ 83) (fun k => sumN (fun t => dkT (μ 60 1) (μ 61) (μ 62) (μ 64) (μ 65) (μ 63) t k (μ 64 t - 1).toNat) (0 : Int).toNat))) (by rw [show k = 64 by omega, ot_uc_self]; rfl) ?_
    refine tt_loc [(0, _), (1, _)] ⟨rfl, rfl, trivial⟩ ?_
    refine tt_loop (α := Int × (Int → Int)) (fun ((t, f)) => (3 - t).toNat) (fun ((t, f)) => 0 ≤ t ∧ t ≤ 3) (fun ((t, f)) => ot_uc (ot_uc μ 82 f) 83 (wr 64 (μ 83) (fun k => sumN (fun t => dkT (μ 60 1) (μ 61) (μ 62) (μ 64) (μ 65) (μ 63) t k (μ 64 t - 1).toNat) (t : Int).toNat))) (fun ((t, f)) => [(0, .inr 60), (1, .inl t)]) (0, μ 82) (by show 0 ≤ (0 : Int) ∧ (0 : Int) ≤ 3; omega) ?_
    intro a hIt iht
    obtain ⟨t, f⟩ := a
    try dsimp only at hIt iht ⊢
    refine tt_iload_n X rfl dX10_findsDark_23 ?_
    refine tt_iconst X dX10_findsDark_24 ?_
    refine tt_icmp_ge X 78 (by first | omega | (simp (disch := decide) only [ot_rd, ot_rs, ot_rf, ot_ucd, ot_ucs]; omega)) dX10_findsDark_25 (by decide) (fun b25 => ?_) (fun b25 => ?_)
    · refine tt_vret X ⟨hr.1, hr.2.1⟩ (by decide) (by decide) dX10_findsDark_78 ?_
      refine ⟨rfl, f, ?_⟩
      rw [show t = 3 by omega]
      rfl
    · refine tt_iconst X dX10_findsDark_28 ?_
      refine tt_istore_n X dX10_findsDark_29 (by decide) ?_
      have hWt := hW t (by omega) (by omega)
      refine tt_mem (μ' := ot_uc (ot_uc μ 82 f) 83 (wr 64 (μ 83) (fun k => sumN (fun t => dkT (μ 60 1) (μ 61) (μ 62) (μ 64) (μ 65) (μ 63) t k (μ 64 t - 1).toNat) (t : Int).toNat + dkT (μ 60 1) (μ 61) (μ 62) (μ 64) (μ 65) (μ 63) t k (0 : Int).toNat))) (by congr 1; exact wr_congr (fun k _ _ => by simp [dkT, sumN])) ?_
      refine tt_loc [(0, _), (1, _), (2, _)] ⟨rfl, rfl, rfl, trivial⟩ ?_
      refine tt_loop (α := Int × (Int → Int)) (fun ((i, f)) => (μ 64 t - i).toNat) (fun ((i, f)) => 0 ≤ i ∧ (i + 1 ≤ μ 64 t ∨ (i = 0 ∧ μ 64 t = 0))) (fun ((i, f)) => ot_uc (ot_uc μ 82 f) 83 (wr 64 (μ 83) (fun k => sumN (fun t => dkT (μ 60 1) (μ 61) (μ 62) (μ 64) (μ 65) (μ 63) t k (μ 64 t - 1).toNat) (t : Int).toNat + dkT (μ 60 1) (μ 61) (μ 62) (μ 64) (μ 65) (μ 63) t k (i : Int).toNat))) (fun ((i, f)) => [(0, .inr 60), (1, .inl t), (2, .inl i)]) (0, f) (by show 0 ≤ (0 : Int) ∧ ((0 : Int) + 1 ≤ μ 64 t ∨ ((0 : Int) = 0 ∧ μ 64 t = 0)); omega) ?_
      intro a hI ih
      obtain ⟨i, f⟩ := a
      try dsimp only at hI ih ⊢
      refine tt_iload_n X rfl dX10_findsDark_30 ?_
      refine tt_iconst X dX10_findsDark_31 ?_
      refine tt_iadd X dX10_findsDark_32 ?_
      refine tt_aload_n X rfl dX10_findsDark_33 ?_
      refine tt_getr X fX10_23 (k_60 _ _) (by decide) ⟨nofun, nofun⟩ rfl dX10_findsDark_34 ?_
      refine tt_iload_n X rfl dX10_findsDark_37 ?_
      refine tt_iaload X (k_64 _ _) (by first | omega | (simp (disch := decide) only [ot_rd, ot_rs, ot_rf, ot_ucd, ot_ucs]; omega)) dX10_findsDark_38 ?_
      try simp (disch := decide) only [ot_rd, ot_rs, ot_rf, ot_ucd, ot_ucs]
      refine tt_icmp_ge X 72 (by first | omega | (simp (disch := decide) only [ot_rd, ot_rs, ot_rf, ot_ucd, ot_ucs]; omega)) dX10_findsDark_39 (by decide) (fun b39 => ?_) (fun b39 => ?_)
      · refine tt_iinc X dX10_findsDark_72 rfl (by decide) ?_
        refine tt_goto X 23 dX10_findsDark_75 (by decide) ?_
        refine tt_loc [(0, _), (1, _)] ⟨rfl, rfl, trivial⟩ ?_
        refine tt_mem (μ' := ot_uc (ot_uc μ 82 f) 83 (wr 64 (μ 83) (fun k => sumN (fun t => dkT (μ 60 1) (μ 61) (μ 62) (μ 64) (μ 65) (μ 63) t k (μ 64 t - 1).toNat) ((t + 1) : Int).toNat))) ?_ ?_
        · congr 1
          refine wr_congr (fun k _ _ => ?_)
          rw [sumN_toNat _ hIt.1]
          rcases (show i = μ 64 t - 1 ∨ (μ 64 t = 0 ∧ i = 0) by omega) with q | q
          · rw [q]
          · rw [q.1, q.2]; rfl
        exact iht (t + 1, f) (by show 0 ≤ t + 1 ∧ t + 1 ≤ 3; omega) (by show (3 - (t + 1)).toNat < (3 - t).toNat; omega)
      · have hw1 := hWt.2.1 i (by omega) (by omega)
        have hw2 := hWt.2.1 (i + 1) (by omega) (by omega)
        have hw3 := hWt.2.2 i (by omega) (by omega)
        rw [show 120 * t + (i + 1) = 120 * t + i + 1 by omega] at hw2
        refine tt_aload_n X rfl dX10_findsDark_42 ?_
        refine tt_aload_n X rfl dX10_findsDark_43 ?_
        refine tt_iload_n X rfl dX10_findsDark_44 ?_
        refine tt_iload_n X rfl dX10_findsDark_45 ?_
        refine tt_vi X rfl mX10_239 (q_woundAt l g ln ext _ _ _ (by omega) (by omega)) (k_60 _ _) ⟨_, rfl, rfl⟩ rfl rfl (Nat.le_of_ble_eq_true rfl) (by decide) (by decide) (by decide) dX10_findsDark_46 (fun z46 L46 μ46 hp => ?_)
        obtain ⟨rfl, e46, hz46⟩ := hp
        replace e46 := e46.symm
        subst e46
        simp (disch := decide) only [ot_ucd, ot_ucs] at hz46
        refine tt_top hz46 ?_
        try simp (disch := decide) only [ot_rd, ot_rs, ot_rf, ot_ucd, ot_ucs] at hz46
        refine tt_aload_n X rfl dX10_findsDark_49 ?_
        refine tt_iload_n X rfl dX10_findsDark_50 ?_
        refine tt_iload_n X rfl dX10_findsDark_51 ?_
        refine tt_iconst X dX10_findsDark_52 ?_
        refine tt_iadd X dX10_findsDark_53 ?_
        refine tt_vi X rfl mX10_239 (q_woundAt l g ln ext _ _ _ (by omega) (by omega)) (k_60 _ _) ⟨_, rfl, rfl⟩ rfl rfl (Nat.le_of_ble_eq_true rfl) (by decide) (by decide) (by decide) dX10_findsDark_54 (fun z54 L54 μ54 hp => ?_)
        obtain ⟨rfl, e54, hz54⟩ := hp
        replace e54 := e54.symm
        subst e54
        simp (disch := decide) only [ot_ucd, ot_ucs] at hz54
        rw [show 120 * t + (i + 1) = 120 * t + i + 1 by omega] at hz54
        refine tt_top hz54 ?_
        try simp (disch := decide) only [ot_rd, ot_rs, ot_rf, ot_ucd, ot_ucs] at hz54
        refine tt_aload_n X rfl dX10_findsDark_57 ?_
        refine tt_getr X fX10_20 (k_60 _ _) (by decide) ⟨nofun, nofun⟩ rfl dX10_findsDark_58 ?_
        refine tt_iload_n X rfl dX10_findsDark_61 ?_
        refine tt_iaload X (k_63 _ _) (by first | omega | (simp (disch := decide) only [ot_rd, ot_rs, ot_rf, ot_ucd, ot_ucs]; omega)) dX10_findsDark_62 ?_
        try simp (disch := decide) only [ot_rd, ot_rs, ot_rf, ot_ucd, ot_ucs]
        refine tt_vv X rfl mX10_242 (q_darkens l g ln ext _ (μ 65 (120 * t + i)) (μ 65 (120 * t + i + 1)) (μ 63 t) (by simp (disch := decide) only [ot_ucd, ot_ucs]; exact hG) (by simp (disch := decide) only [ot_ucd, ot_ucs]; omega) (by simp (disch := decide) only [ot_ucd, ot_ucs]; omega) hw3) (k_60 _ _) ⟨_, rfl, rfl⟩ rfl rfl (Nat.le_of_ble_eq_true rfl) (by decide) (by decide) (by decide) dX10_findsDark_63 (fun L63 μ63 hp => ?_)
        obtain ⟨rfl, rfl⟩ := hp
        simp (disch := decide) only [ot_ucd, ot_ucs]
        refine tt_iinc X dX10_findsDark_66 rfl (by decide) ?_
        refine tt_goto X 30 dX10_findsDark_69 (by decide) ?_
        refine tt_loc [(0, _), (1, _), (2, _)] ⟨rfl, rfl, rfl, trivial⟩ ?_
        refine tt_mem (μ' := ot_uc (ot_uc μ 82 (wr 64 f (smp (μ 60 1) (μ 61) (μ 62) (μ 65 (120 * t + i)) (μ 65 (120 * t + i + 1))))) 83 (wr 64 (μ 83) (fun k => sumN (fun t => dkT (μ 60 1) (μ 61) (μ 62) (μ 64) (μ 65) (μ 63) t k (μ 64 t - 1).toNat) (t : Int).toNat + dkT (μ 60 1) (μ 61) (μ 62) (μ 64) (μ 65) (μ 63) t k ((i + 1) : Int).toNat))) ?_ ?_
        · rw [ot_uc4 (by decide), wr_wr]
          congr 1
          refine wr_congr (fun k h1 h2 => ?_)
          rw [wr_in ⟨h1, h2⟩]
          have e := sumN_toNat (fun i => μ 63 t * smp (μ 60 1) (μ 61) (μ 62) (μ 65 (120 * t + i)) (μ 65 (120 * t + i + 1)) k) hI.1
          simp only [dkT] at e ⊢
          rw [e]
          omega
        exact ih (i + 1, _) (by show 0 ≤ i + 1 ∧ (i + 1 + 1 ≤ μ 64 t ∨ (i + 1 = 0 ∧ μ 64 t = 0)); omega) (by show (μ 64 t - (i + 1)).toNat < (μ 64 t - i).toNat; omega)
  · refine tt_aload_n X rfl dX10_findsDark_8 ?_
    refine tt_getr X fX10_83 (k_60 _ _) (by decide) ⟨nofun, nofun⟩ rfl dX10_findsDark_9 ?_
    refine tt_iload_n X rfl dX10_findsDark_12 ?_
    refine tt_iconst X dX10_findsDark_13 ?_
    refine tt_iastore X (k_83 _ _) (by first | omega | (simp (disch := decide) only [ot_rd, ot_rs, ot_rf, ot_ucd, ot_ucs]; omega)) dX10_findsDark_14 ?_
    refine tt_iinc X dX10_findsDark_15 rfl (by decide) ?_
    refine tt_goto X 2 dX10_findsDark_18 (by decide) ?_
    refine tt_loc [(0, _), (1, _)] ⟨rfl, rfl, trivial⟩ ?_
    refine tt_mem (μ' := ot_uc μ 83 (wr (k + 1) (μ 83) (fun _ => 0))) (ot_uc_wr hI.1 rfl) ?_
    exact ih (k + 1) (by omega) (by omega)

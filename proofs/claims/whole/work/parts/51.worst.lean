/-- WORST: the first line by which most is won -/
def wIn (g : Int → Int → Int) (t : Int) (s : Int × Int × Int) : Nat → Int × Int × Int
  | 0 => s
  | n + 1 => if (wIn g t s n).2.2 < g t (n : Int) then (t, (n : Int), g t (n : Int)) else wIn g t s n
def wAll (g : Int → Int → Int) (cnt : Int → Int) : Nat → Int × Int × Int
  | 0 => (-1, -1, 0)
  | t + 1 => wIn g (t : Int) (wAll g cnt t) (cnt (t : Int) - 1).toNat
theorem wIn_toNat (g : Int → Int → Int) (t : Int) (s : Int × Int × Int) {i : Int} (h : 0 ≤ i) : wIn g t s (i + 1).toNat = if (wIn g t s i.toNat).2.2 < g t i then (t, i, g t i) else wIn g t s i.toNat := by
  rw [show (i + 1).toNat = i.toNat + 1 by omega]
  show (if (wIn g t s i.toNat).2.2 < g t (i.toNat : Int) then (t, (i.toNat : Int), g t (i.toNat : Int)) else wIn g t s i.toNat) = _
  rw [show (i.toNat : Int) = i by omega]
theorem wAll_toNat (g : Int → Int → Int) (cnt : Int → Int) {t : Int} (h : 0 ≤ t) : wAll g cnt (t + 1).toNat = wIn g t (wAll g cnt t.toNat) (cnt t - 1).toNat := by
  rw [show (t + 1).toNat = t.toNat + 1 by omega]
  show wIn g (t.toNat : Int) (wAll g cnt t.toNat) (cnt (t.toNat : Int) - 1).toNat = _
  rw [show (t.toNat : Int) = t by omega]
def skM (μ : ot_M) (f z : Int → Int) (s : Int × Int × Int) : ot_M := fun k j => if k = 38 then f j else if k = 39 then z j else if k = 40 then (if j = 3 then s.1 else if j = 4 then s.2.1 else if j = 5 then s.2.2 else μ 40 j) else μ k j
theorem skM_o {μ : ot_M} {f z : Int → Int} {s : Int × Int × Int} {k : Nat} (h : k ≠ 38 ∧ k ≠ 39 ∧ k ≠ 40) : skM μ f z s k = μ k := by funext j; simp [skM, h]
theorem skM_38 {μ : ot_M} {f z : Int → Int} {s : Int × Int × Int} : skM μ f z s 38 = f := by funext j; simp [skM]
theorem skM_39 {μ : ot_M} {f z : Int → Int} {s : Int × Int × Int} : skM μ f z s 39 = z := by funext j; simp [skM]
theorem skM_3 {μ : ot_M} {f z : Int → Int} {s : Int × Int × Int} : skM μ f z s 40 3 = s.1 := by simp [skM]
theorem skM_4 {μ : ot_M} {f z : Int → Int} {s : Int × Int × Int} : skM μ f z s 40 4 = s.2.1 := by simp [skM]
theorem skM_5 {μ : ot_M} {f z : Int → Int} {s : Int × Int × Int} : skM μ f z s 40 5 = s.2.2 := by simp [skM]
theorem skM_uc {μ : ot_M} {f z f2 z2 : Int → Int} {s : Int × Int × Int} : ot_uc (ot_uc (skM μ f z s) 38 f2) 39 z2 = skM μ f2 z2 s := by
  funext k j
  by_cases h1 : k = 39
  · simp [skM, ot_uc, h1]
  · by_cases h2 : k = 38 <;> simp [skM, ot_uc, h1, h2]
theorem skM_put {μ : ot_M} {f z : Int → Int} {s : Int × Int × Int} {a b c : Int} : ot_up (ot_up (ot_up (skM μ f z s) 40 3 a) 40 4 b) 40 5 c = skM μ f z (a, b, c) := by
  funext k j
  by_cases h1 : k = 40
  · subst h1
    by_cases h3 : j = 3
    · simp [skM, ot_up, h3]
    · by_cases h4 : j = 4
      · simp [skM, ot_up, h4]
      · by_cases h5 : j = 5 <;> simp [skM, ot_up, h3, h4, h5]
  · simp [skM, ot_up, h1]
theorem skM_id {μ : ot_M} : μ = skM μ (μ 38) (μ 39) (μ 40 3, μ 40 4, μ 40 5) := by
  funext k j
  unfold skM
  by_cases h1 : k = 38
  · subst h1; simp
  · by_cases h2 : k = 39
    · subst h2; simp
    · by_cases h3 : k = 40
      · subst h3
        by_cases h4 : j = 3
        · subst h4; simp
        · by_cases h5 : j = 4
          · subst h5; simp
          · by_cases h6 : j = 5
            · subst h6; simp
            · simp [h4, h5, h6]
      · simp [h1, h2, h3]
theorem skM_first {μ : ot_M} : ot_up (ot_up (ot_up μ 40 3 (-1)) 40 4 (-1)) 40 5 0 = skM μ (μ 38) (μ 39) (-1, -1, 0) := by
  funext k j
  by_cases h1 : k = 40
  · subst h1
    by_cases h3 : j = 3
    · simp [skM, ot_up, h3]
    · by_cases h4 : j = 4
      · simp [skM, ot_up, h4]
      · by_cases h5 : j = 5 <;> simp [skM, ot_up, h3, h4, h5]
  · by_cases h2 : k = 38
    · simp [skM, ot_up, h2]
    · by_cases h3 : k = 39 <;> simp [skM, ot_up, h1, h2, h3]
set_option maxRecDepth 100000 in
set_option maxHeartbeats 1000000 in
theorem c_seekWorst (l : Launch) (g : ot_G) (ln : Nat) (ext : ot_L) (μ : ot_M) (q : Int) (g0 : Int → Int → Int) (hg0 : g0 = (fun t i => gainS (μ 5) (μ 4) (μ 34) (smp (μ 1 11) (μ 2) (μ 3) (μ 7 (120 * t + i)) (μ 7 (120 * t + i + 1))) q (-(μ 6 t)))) (hG : gPin (μ 1 11) (μ 1 12) (μ 2) (μ 3)) (hCh : gChd (μ 1 11) (μ 1 12) (μ 2) (μ 3) (μ 38) (μ 39)) (hW : gWnd (μ 1 12) (μ 8) (μ 7)) (hq : 0 ≤ q ∧ q < 4) (hF : gFar (μ 4) (μ 34) q) (hs : gShd (μ 6)) (hw : ∀ k, 0 ≤ k → k < 64 → 0 ≤ μ 5 k ∧ μ 5 k ≤ 9)  : ot_C l g yX7_seekWorst cX7_seekWorst 7 none 5 0 0 [.inr 40, .inl q] (LL ln ext) μ (ot_pv (fun L2 μ2 => L2 = LL ln ext ∧ ∃ f z a b c0, gChd (μ 1 11) (μ 1 12) (μ 2) (μ 3) f z ∧ (a, b, c0) = wAll g0 (μ 8) 3 ∧ ((-1 ≤ a ∧ a ≤ 2) ∧ (-1 ≤ b ∧ b < 120) ∧ (0 ≤ c0 ∧ c0 ≤ 41472) ∧ (a = -1 ↔ b = -1)) ∧ μ2 = skM μ f z (a, b, c0))) := by
  refine ot_enter (by decide) (Nat.le_of_ble_eq_true rfl) ?_
  intro p e s m args below meth c X hr
  have hNn := hG.2.1
  have hga : ∀ t i, g0 t i = gainS (μ 5) (μ 4) (μ 34) (smp (μ 1 11) (μ 2) (μ 3) (μ 7 (120 * t + i)) (μ 7 (120 * t + i + 1))) q (-(μ 6 t)) := fun t i => by rw [hg0]
  clear hg0
  refine tt_aload_n X rfl dX7_seekWorst_0 ?_
  refine tt_iconst X dX7_seekWorst_1 ?_
  refine tt_puti X fX7_73 kc_7 (k_40 _ _) (by decide) (fun q hq => by cases hq; rfl) rfl dX7_seekWorst_2 ?_
  refine tt_aload_n X rfl dX7_seekWorst_5 ?_
  refine tt_iconst X dX7_seekWorst_6 ?_
  refine tt_puti X fX7_76 kc_7 (k_40 _ _) (by decide) (fun q hq => by cases hq; rfl) rfl dX7_seekWorst_7 ?_
  refine tt_aload_n X rfl dX7_seekWorst_10 ?_
  refine tt_iconst X dX7_seekWorst_11 ?_
  refine tt_puti X fX7_23 kc_7 (k_40 _ _) (by decide) (fun q hq => by cases hq; rfl) rfl dX7_seekWorst_12 ?_
  refine tt_iconst X dX7_seekWorst_15 ?_
  refine tt_istore_n X dX7_seekWorst_16 (by decide) ?_
  refine tt_mem skM_first ?_
  refine tt_loc [(0, _), (1, _), (2, _)] ⟨rfl, rfl, rfl, trivial⟩ ?_
  refine tt_loop (α := Int × (Int → Int) × (Int → Int) × Int × Int × Int) (fun ((t, f, z, a, b, c0)) => (3 - t).toNat) (fun ((t, f, z, a, b, c0)) => (0 ≤ t ∧ t ≤ 3) ∧ gChd (μ 1 11) (μ 1 12) (μ 2) (μ 3) f z ∧ (a, b, c0) = wAll g0 (μ 8) t.toNat ∧ (-1 ≤ a ∧ a ≤ 2) ∧ (-1 ≤ b ∧ b < 120) ∧ (0 ≤ c0 ∧ c0 ≤ 41472) ∧ (a = -1 ↔ b = -1)) (fun ((t, f, z, a, b, c0)) => skM μ f z (a, b, c0)) (fun ((t, f, z, a, b, c0)) => [(0, .inr 40), (1, .inl q), (2, .inl t)]) (0, μ 38, μ 39, -1, -1, 0) ⟨by show 0 ≤ (0 : Int) ∧ (0 : Int) ≤ 3; omega, hCh, rfl, by show ((-1 : Int) ≤ -1 ∧ (-1 : Int) ≤ 2) ∧ ((-1 : Int) ≤ -1 ∧ (-1 : Int) < 120) ∧ ((0 : Int) ≤ 0 ∧ (0 : Int) ≤ 41472) ∧ ((-1 : Int) = -1 ↔ (-1 : Int) = -1); omega⟩ ?_
  intro a hIt iht
  obtain ⟨t, f, z, a, b, c0⟩ := a
  try dsimp only at hIt iht ⊢
  replace hIt : (0 ≤ t ∧ t ≤ 3) ∧ gChd (μ 1 11) (μ 1 12) (μ 2) (μ 3) f z ∧ (a, b, c0) = wAll g0 (μ 8) t.toNat ∧ (-1 ≤ a ∧ a ≤ 2) ∧ (-1 ≤ b ∧ b < 120) ∧ (0 ≤ c0 ∧ c0 ≤ 41472) ∧ (a = -1 ↔ b = -1) := hIt
  have ht := hIt.1
  have hbt := hIt.2.2.2
  refine tt_iload_n X rfl dX7_seekWorst_17 ?_
  refine tt_iconst X dX7_seekWorst_18 ?_
  refine tt_icmp_ge X 144 (by first | omega | (simp (disch := decide) only [ot_rd, ot_rs, ot_rf, ot_ucd, ot_ucs]; omega)) dX7_seekWorst_19 (by decide) (fun b19 => ?_) (fun b19 => ?_)
  · refine tt_vret X ⟨hr.1, hr.2.1⟩ (by decide) (by decide) dX7_seekWorst_144 ?_
    refine ⟨rfl, f, z, a, b, c0, hIt.2.1, ?_, hbt, rfl⟩
    rw [hIt.2.2.1, show t = 3 by omega]
    rfl
  · refine tt_iload_n X rfl dX7_seekWorst_22 ?_
    refine tt_bipush X (by decide) dX7_seekWorst_23 ?_
    refine tt_imul X dX7_seekWorst_25 ?_
    refine tt_istore_n X dX7_seekWorst_26 (by decide) ?_
    refine tt_iconst X dX7_seekWorst_27 ?_
    refine tt_istore X dX7_seekWorst_28 (by decide) ?_
    have hWt := hW t (by omega) (by omega)
    refine tt_loc [(0, _), (1, _), (2, _), (3, _), (4, _)] ⟨rfl, rfl, rfl, rfl, rfl, trivial⟩ ?_
    refine tt_loop (α := Int × (Int → Int) × (Int → Int) × Int × Int × Int) (fun ((i, f, z, a, b, c0)) => (μ 8 t - i).toNat) (fun ((i, f, z, a, b, c0)) => (1 ≤ i ∧ (i ≤ μ 8 t ∨ (i = 1 ∧ μ 8 t = 0))) ∧ gChd (μ 1 11) (μ 1 12) (μ 2) (μ 3) f z ∧ (a, b, c0) = wIn g0 t (wAll g0 (μ 8) t.toNat) (i - 1).toNat ∧ (-1 ≤ a ∧ a ≤ 2) ∧ (-1 ≤ b ∧ b < 120) ∧ (0 ≤ c0 ∧ c0 ≤ 41472) ∧ (a = -1 ↔ b = -1)) (fun ((i, f, z, a, b, c0)) => skM μ f z (a, b, c0)) (fun ((i, f, z, a, b, c0)) => [(0, .inr 40), (1, .inl q), (2, .inl t), (3, .inl (t * 120)), (4, .inl i)]) (1, f, z, a, b, c0) ⟨by show 1 ≤ (1 : Int) ∧ ((1 : Int) ≤ μ 8 t ∨ ((1 : Int) = 1 ∧ μ 8 t = 0)); omega, hIt.2.1, hIt.2.2.1, hbt⟩ ?_
    intro a hI ih
    obtain ⟨i, f, z, a, b, c0⟩ := a
    try dsimp only at hI ih ⊢
    replace hI : (1 ≤ i ∧ (i ≤ μ 8 t ∨ (i = 1 ∧ μ 8 t = 0))) ∧ gChd (μ 1 11) (μ 1 12) (μ 2) (μ 3) f z ∧ (a, b, c0) = wIn g0 t (wAll g0 (μ 8) t.toNat) (i - 1).toNat ∧ (-1 ≤ a ∧ a ≤ 2) ∧ (-1 ≤ b ∧ b < 120) ∧ (0 ≤ c0 ∧ c0 ≤ 41472) ∧ (a = -1 ↔ b = -1) := hI
    have hi := hI.1
    have hbd := hI.2.2.2
    refine tt_iload X rfl dX7_seekWorst_30 ?_
    refine tt_aload_n X rfl dX7_seekWorst_32 ?_
    refine tt_getr X fX7_9 (k_40 _ _) (by decide) ⟨nofun, nofun⟩ rfl dX7_seekWorst_33 ?_
    refine tt_getr X fX7_79 (k_1 _ _) (by decide) ⟨nofun, nofun⟩ rfl dX7_seekWorst_36 ?_
    refine tt_iload_n X rfl dX7_seekWorst_39 ?_
    refine tt_iaload X (k_8 _ _) (by first | omega | (simp (disch := decide) only [ot_rd, ot_rs, ot_rf, ot_ucd, ot_ucs]; omega)) dX7_seekWorst_40 ?_
    try simp (disch := decide) only [ot_rd, ot_rs, ot_rf, ot_ucd, ot_ucs]
    try simp (disch := decide) only [skM_o, skM_38, skM_39, skM_3, skM_4, skM_5]
    refine tt_icmp_ge X 138 (by first | omega | (simp (disch := decide) only [ot_rd, ot_rs, ot_rf, ot_ucd, ot_ucs]; omega)) dX7_seekWorst_41 (by decide) (fun b41 => ?_) (fun b41 => ?_)
    · refine tt_iinc X dX7_seekWorst_138 rfl (by decide) ?_
      refine tt_goto X 17 dX7_seekWorst_141 (by decide) ?_
      refine tt_loc [(0, _), (1, _), (2, _)] ⟨rfl, rfl, rfl, trivial⟩ ?_
      have e : (a, b, c0) = wAll g0 (μ 8) (t + 1).toNat := by
        rw [wAll_toNat _ _ hIt.1.1, hI.2.2.1]
        rcases (show i - 1 = μ 8 t - 1 ∨ (μ 8 t = 0 ∧ i = 1) by omega) with w | w
        · rw [w]
        · rw [w.1, w.2]; rfl
      exact iht (t + 1, f, z, a, b, c0) ⟨by show 0 ≤ t + 1 ∧ t + 1 ≤ 3; omega, hI.2.1, e, hI.2.2.2⟩ (by show (3 - (t + 1)).toNat < (3 - t).toNat; omega)
    · have hw1 := hWt.2.1 (i - 1) (by omega) (by omega)
      have hw2 := hWt.2.1 i (by omega) (by omega)
      have hw3 := hWt.2.2 (i - 1) (by omega) (by omega)
      rw [show 120 * t + (i - 1) + 1 = 120 * t + i by omega] at hw3
      have hch := chN_in (a := μ 7 (120 * t + (i - 1))) (b := μ 7 (120 * t + i)) (by omega) (by omega) hw3
      have hst := hs t (by omega) (by omega)
      refine tt_aload_n X rfl dX7_seekWorst_44 ?_
      refine tt_getr X fX7_15 (k_40 _ _) (by decide) ⟨nofun, nofun⟩ rfl dX7_seekWorst_45 ?_
      refine tt_getr X fX7_41 (k_33 _ _) (by decide) ⟨nofun, nofun⟩ rfl dX7_seekWorst_48 ?_
      refine tt_aload_n X rfl dX7_seekWorst_51 ?_
      refine tt_getr X fX7_9 (k_40 _ _) (by decide) ⟨nofun, nofun⟩ rfl dX7_seekWorst_52 ?_
      refine tt_getr X fX7_82 (k_1 _ _) (by decide) ⟨nofun, nofun⟩ rfl dX7_seekWorst_55 ?_
      refine tt_iload_n X rfl dX7_seekWorst_58 ?_
      refine tt_iload X rfl dX7_seekWorst_59 ?_
      refine tt_iadd X dX7_seekWorst_61 ?_
      refine tt_iconst X dX7_seekWorst_62 ?_
      refine tt_isub X dX7_seekWorst_63 ?_
      refine tt_iaload X (k_7 _ _) (by first | omega | (simp (disch := decide) only [ot_rd, ot_rs, ot_rf, ot_ucd, ot_ucs]; omega)) dX7_seekWorst_64 ?_
      try simp (disch := decide) only [ot_rd, ot_rs, ot_rf, ot_ucd, ot_ucs]
      try simp (disch := decide) only [skM_o, skM_38, skM_39, skM_3, skM_4, skM_5]
      refine tt_top (show _ = μ 7 (120 * t + (i - 1)) by rw [show t * 120 + i - 1 = 120 * t + (i - 1) by omega]) ?_
      refine tt_aload_n X rfl dX7_seekWorst_65 ?_
      refine tt_getr X fX7_9 (k_40 _ _) (by decide) ⟨nofun, nofun⟩ rfl dX7_seekWorst_66 ?_
      refine tt_getr X fX7_82 (k_1 _ _) (by decide) ⟨nofun, nofun⟩ rfl dX7_seekWorst_69 ?_
      refine tt_iload_n X rfl dX7_seekWorst_72 ?_
      refine tt_iload X rfl dX7_seekWorst_73 ?_
      refine tt_iadd X dX7_seekWorst_75 ?_
      refine tt_iaload X (k_7 _ _) (by first | omega | (simp (disch := decide) only [ot_rd, ot_rs, ot_rf, ot_ucd, ot_ucs]; omega)) dX7_seekWorst_76 ?_
      try simp (disch := decide) only [ot_rd, ot_rs, ot_rf, ot_ucd, ot_ucs]
      try simp (disch := decide) only [skM_o, skM_38, skM_39, skM_3, skM_4, skM_5]
      refine tt_top (show _ = μ 7 (120 * t + i) by rw [show t * 120 + i = 120 * t + i by omega]) ?_
      refine tt_vi X rfl mX7_45 (c_measured l g ln ext _ _ _ (by simp (disch := decide) only [skM_o, skM_38, skM_39, skM_3, skM_4, skM_5]; exact hG) (by simp (disch := decide) only [skM_o, skM_38, skM_39, skM_3, skM_4, skM_5]; exact hI.2.1) (by simp (disch := decide) only [skM_o, skM_38, skM_39, skM_3, skM_4, skM_5]; exact hw1) (by simp (disch := decide) only [skM_o, skM_38, skM_39, skM_3, skM_4, skM_5]; exact hw2) hw3) (k_37 _ _) ⟨_, rfl, rfl⟩ rfl rfl (Nat.le_of_ble_eq_true rfl) (by decide) (by decide) (by decide) dX7_seekWorst_77 (fun z77 L77 μ77 hp => ?_)
      obtain ⟨rfl, hz77, f2, z2, rfl, hc2, hrow⟩ := hp
      subst hz77
      simp (disch := decide) only [skM_o, skM_38, skM_39, skM_3, skM_4, skM_5] at hc2 hrow
      refine tt_mem skM_uc ?_
      try simp (disch := decide) only [ot_rd, ot_rs, ot_rf, ot_ucd, ot_ucs] at hz77
      refine tt_istore X dX7_seekWorst_80 (by decide) ?_
      refine tt_aload_n X rfl dX7_seekWorst_82 ?_
      refine tt_getr X fX7_15 (k_40 _ _) (by decide) ⟨nofun, nofun⟩ rfl dX7_seekWorst_83 ?_
      refine tt_iload_n X rfl dX7_seekWorst_86 ?_
      refine tt_iload X rfl dX7_seekWorst_87 ?_
      refine tt_aload_n X rfl dX7_seekWorst_89 ?_
      refine tt_getr X fX7_9 (k_40 _ _) (by decide) ⟨nofun, nofun⟩ rfl dX7_seekWorst_90 ?_
      refine tt_getr X fX7_51 (k_1 _ _) (by decide) ⟨nofun, nofun⟩ rfl dX7_seekWorst_93 ?_
      refine tt_iload_n X rfl dX7_seekWorst_96 ?_
      refine tt_iaload X (k_6 _ _) (by first | omega | (simp (disch := decide) only [ot_rd, ot_rs, ot_rf, ot_ucd, ot_ucs]; omega)) dX7_seekWorst_97 ?_
      try simp (disch := decide) only [ot_rd, ot_rs, ot_rf, ot_ucd, ot_ucs]
      try simp (disch := decide) only [skM_o, skM_38, skM_39, skM_3, skM_4, skM_5]
      refine tt_ineg X dX7_seekWorst_98 ?_
      refine tt_vi X rfl mX7_55 (c_gainBy l g ln ext _ _ _ _ (μ 7 (120 * t + (i - 1))) (μ 7 (120 * t + i)) (by omega) (by omega) (by omega) (by simp (disch := decide) only [skM_o, skM_38, skM_39, skM_3, skM_4, skM_5]; exact hF) (by simp (disch := decide) only [skM_o, skM_38, skM_39, skM_3, skM_4, skM_5]; exact hrow)) (k_33 _ _) ⟨_, rfl, rfl⟩ rfl rfl (Nat.le_of_ble_eq_true rfl) (by decide) (by decide) (by decide) dX7_seekWorst_99 (fun z99 L99 μ99 hp => ?_)
      obtain ⟨rfl, e99, hz99⟩ := hp
      replace e99 := e99.symm
      subst e99
      simp (disch := decide) only [skM_o, skM_38, skM_39, skM_3, skM_4, skM_5] at hz99
      have hg : z99 = g0 t (i - 1) := by rw [hz99, hga, show 120 * t + (i - 1) + 1 = 120 * t + i by omega]
      have hgb := gainS_bd (p := q) (want := μ 4) (d := μ 34) hw (x := -(μ 6 t)) (by omega) (fun k _ _ => smp_bd hG hw1 hw2 hw3 k)
      rw [← hz99] at hgb
      clear hz99
      try simp (disch := decide) only [ot_rd, ot_rs, ot_rf, ot_ucd, ot_ucs] at hz99
      refine tt_istore X dX7_seekWorst_102 (by decide) ?_
      refine tt_iload X rfl dX7_seekWorst_104 ?_
      refine tt_aload_n X rfl dX7_seekWorst_106 ?_
      refine tt_geti X fX7_23 (k_40 _ _) (by decide) (Or.inl rfl) dX7_seekWorst_107 ?_
      try simp (disch := decide) only [ot_rd, ot_rs, ot_rf, ot_ucd, ot_ucs]
      try simp (disch := decide) only [skM_o, skM_38, skM_39, skM_3, skM_4, skM_5]
      refine tt_icmp_le X 132 (by first | omega | (simp (disch := decide) only [ot_rd, ot_rs, ot_rf, ot_ucd, ot_ucs]; omega)) dX7_seekWorst_110 (by decide) (fun b110 => ?_) (fun b110 => ?_)
      · refine tt_iinc X dX7_seekWorst_132 rfl (by decide) ?_
        refine tt_goto X 30 dX7_seekWorst_135 (by decide) ?_
        refine tt_loc [(0, _), (1, _), (2, _), (3, _), (4, _)] ⟨rfl, rfl, rfl, rfl, rfl, trivial⟩ ?_
        have e := wIn_toNat g0 t (wAll g0 (μ 8) t.toNat) (show 0 ≤ i - 1 by omega)
        rw [show i - 1 + 1 = i by omega, ← hI.2.2.1] at e
        have e' : wIn g0 t (wAll g0 (μ 8) t.toNat) (i + 1 - 1).toNat = if c0 < g0 t (i - 1) then (t, i - 1, g0 t (i - 1)) else (a, b, c0) := by rw [show i + 1 - 1 = i by omega]; exact e
        clear e
        first
          | (refine tt_mem skM_put ?_
             exact ih (i + 1, f2, z2, t, i - 1, z99) ⟨by show 1 ≤ i + 1 ∧ (i + 1 ≤ μ 8 t ∨ (i + 1 = 1 ∧ μ 8 t = 0)); omega, hc2, by show (t, i - 1, z99) = _; rw [e', if_pos (by omega), hg], by show (-1 ≤ t ∧ t ≤ 2) ∧ (-1 ≤ i - 1 ∧ i - 1 < 120) ∧ (0 ≤ z99 ∧ z99 ≤ 41472) ∧ (t = -1 ↔ i - 1 = -1); omega⟩ (by show (μ 8 t - (i + 1)).toNat < (μ 8 t - i).toNat; omega))
          | exact ih (i + 1, f2, z2, a, b, c0) ⟨by show 1 ≤ i + 1 ∧ (i + 1 ≤ μ 8 t ∨ (i + 1 = 1 ∧ μ 8 t = 0)); omega, hc2, by show (a, b, c0) = _; rw [e', if_neg (by omega)], hI.2.2.2⟩ (by show (μ 8 t - (i + 1)).toNat < (μ 8 t - i).toNat; omega)
      · refine tt_aload_n X rfl dX7_seekWorst_113 ?_
        refine tt_iload_n X rfl dX7_seekWorst_114 ?_
        refine tt_puti X fX7_73 kc_7 (k_40 _ _) (by decide) (fun q hq => by cases hq; rfl) rfl dX7_seekWorst_115 ?_
        refine tt_aload_n X rfl dX7_seekWorst_118 ?_
        refine tt_iload X rfl dX7_seekWorst_119 ?_
        refine tt_iconst X dX7_seekWorst_121 ?_
        refine tt_isub X dX7_seekWorst_122 ?_
        refine tt_puti X fX7_76 kc_7 (k_40 _ _) (by decide) (fun q hq => by cases hq; rfl) rfl dX7_seekWorst_123 ?_
        refine tt_aload_n X rfl dX7_seekWorst_126 ?_
        refine tt_iload X rfl dX7_seekWorst_127 ?_
        refine tt_puti X fX7_23 kc_7 (k_40 _ _) (by decide) (fun q hq => by cases hq; rfl) rfl dX7_seekWorst_129 ?_
        refine tt_iinc X dX7_seekWorst_132 rfl (by decide) ?_
        refine tt_goto X 30 dX7_seekWorst_135 (by decide) ?_
        refine tt_loc [(0, _), (1, _), (2, _), (3, _), (4, _)] ⟨rfl, rfl, rfl, rfl, rfl, trivial⟩ ?_
        have e := wIn_toNat g0 t (wAll g0 (μ 8) t.toNat) (show 0 ≤ i - 1 by omega)
        rw [show i - 1 + 1 = i by omega, ← hI.2.2.1] at e
        have e' : wIn g0 t (wAll g0 (μ 8) t.toNat) (i + 1 - 1).toNat = if c0 < g0 t (i - 1) then (t, i - 1, g0 t (i - 1)) else (a, b, c0) := by rw [show i + 1 - 1 = i by omega]; exact e
        clear e
        first
          | (refine tt_mem skM_put ?_
             exact ih (i + 1, f2, z2, t, i - 1, z99) ⟨by show 1 ≤ i + 1 ∧ (i + 1 ≤ μ 8 t ∨ (i + 1 = 1 ∧ μ 8 t = 0)); omega, hc2, by show (t, i - 1, z99) = _; rw [e', if_pos (by omega), hg], by show (-1 ≤ t ∧ t ≤ 2) ∧ (-1 ≤ i - 1 ∧ i - 1 < 120) ∧ (0 ≤ z99 ∧ z99 ≤ 41472) ∧ (t = -1 ↔ i - 1 = -1); omega⟩ (by show (μ 8 t - (i + 1)).toNat < (μ 8 t - i).toNat; omega))
          | exact ih (i + 1, f2, z2, a, b, c0) ⟨by show 1 ≤ i + 1 ∧ (i + 1 ≤ μ 8 t ∨ (i + 1 = 1 ∧ μ 8 t = 0)); omega, hc2, by show (a, b, c0) = _; rw [e', if_neg (by omega)], hI.2.2.2⟩ (by show (μ 8 t - (i + 1)).toNat < (μ 8 t - i).toNat; omega)
set_option maxRecDepth 100000 in
set_option maxHeartbeats 1000000 in
theorem c_worst (l : Launch) (g : ot_G) (ln : Nat) (ext : ot_L) (μ : ot_M) (q w : Int) (g0 : Int → Int → Int) (hg0 : g0 = (fun t i => gainS (μ 5) (μ 4) (μ 34) (smp (μ 1 11) (μ 2) (μ 3) (μ 7 (120 * t + i)) (μ 7 (120 * t + i + 1))) q (-(μ 6 t)))) (hq : -2147483648 ≤ q ∧ q ≤ 2147483647) (hw : -2147483648 ≤ w ∧ w ≤ 2147483647)(hG : gPin (μ 1 11) (μ 1 12) (μ 2) (μ 3)) (hCh : gChd (μ 1 11) (μ 1 12) (μ 2) (μ 3) (μ 38) (μ 39)) (hW : gWnd (μ 1 12) (μ 8) (μ 7)) (hF : ∀ q, 0 ≤ q → q < 4 → gFar (μ 4) (μ 34) q) (hs : gShd (μ 6)) (hw0 : ∀ k, 0 ≤ k → k < 64 → 0 ≤ μ 5 k ∧ μ 5 k ≤ 9)  : ot_C l g yX9_worst cX9_worst 3 (some .int) 6 0 0 [.inr 0, .inl q, .inl w] (LL ln ext) μ (ot_pi (fun r L2 μ2 => L2 = LL ln ext ∧ r = (if 0 ≤ q ∧ q < 4 then (if (wAll g0 (μ 8) 3).1 = -1 then -1 else if w = 0 then (wAll g0 (μ 8) 3).1 else if w = 1 then (wAll g0 (μ 8) 3).2.1 else if w = 2 then (wAll g0 (μ 8) 3).2.2 else -1) else -1) ∧ ∃ f z s, gChd (μ 1 11) (μ 1 12) (μ 2) (μ 3) f z ∧ μ2 = skM μ f z s)) := by
  refine ot_enter (by decide) (Nat.le_of_ble_eq_true rfl) ?_
  intro p e s m args below meth c X hr
  refine tt_iload_n X rfl dX9_worst_0 ?_
  refine tt_si X rfl mX9_112 (c_isPicture l g ln ext _ _ (by first | omega | (simp (disch := decide) only [ot_rd, ot_rs, ot_rf, ot_ucd, ot_ucs]; omega))) rfl rfl (Nat.le_of_ble_eq_true rfl) (by decide) (by decide) (by decide) dX9_worst_1 (fun z1 L1 μ1 hp => ?_)
  obtain ⟨rfl, e1, hz1⟩ := hp
  replace e1 := e1.symm
  subst e1
  try simp (disch := decide) only [ot_rd, ot_rs, ot_rf, ot_ucd, ot_ucs] at hz1
  refine tt_if_ne X 9 (by first | omega | (simp (disch := decide) only [ot_rd, ot_rs, ot_rf, ot_ucd, ot_ucs]; omega)) dX9_worst_4 (by decide) (fun b4 => ?_) (fun b4 => ?_)
  · refine tt_aload_n X rfl dX9_worst_9 ?_
    refine tt_getr X fX9_33 (k_0 _ _) (by decide) ⟨nofun, nofun⟩ rfl dX9_worst_10 ?_
    refine tt_iload_n X rfl dX9_worst_13 ?_
    refine tt_vv X rfl mX9_224 (c_seekWorst l g ln ext _ q g0 hg0 hG hCh hW (by omega) (hF q (by omega) (by omega)) hs hw0) (k_40 _ _) ⟨_, rfl, rfl⟩ rfl rfl (Nat.le_of_ble_eq_true rfl) (by decide) (by decide) (by decide) dX9_worst_14 (fun L14 μ14 hp => ?_)
    obtain ⟨rfl, f, z, a, b, c0, hc, hw3, hbd, rfl⟩ := hp
    refine tt_aload_n X rfl dX9_worst_17 ?_
    refine tt_getr X fX9_33 (k_0 _ _) (by decide) ⟨nofun, nofun⟩ rfl dX9_worst_18 ?_
    refine tt_geti X fX9_227 (k_40 _ _) (by decide) (Or.inl rfl) dX9_worst_21 ?_
    try simp (disch := decide) only [ot_rd, ot_rs, ot_rf, ot_ucd, ot_ucs]
    try simp (disch := decide) only [skM_o, skM_38, skM_39, skM_3, skM_4, skM_5]
    refine tt_iconst X dX9_worst_24 ?_
    refine tt_icmp_ne X 30 (by first | omega | (simp (disch := decide) only [ot_rd, ot_rs, ot_rf, ot_ucd, ot_ucs]; omega)) dX9_worst_25 (by decide) (fun b25 => ?_) (fun b25 => ?_)
    · refine tt_iload_n X rfl dX9_worst_30 ?_
      rcases (show w < 0 ∨ 2 < w ∨ w = 0 ∨ w = 1 ∨ w = 2 by omega) with sw | sw | sw | sw | sw
      · refine tt_tabOut X 80 (by omega) dX9_worst_31 (Or.inl sw) (by decide) ?_
        refine tt_iconst X dX9_worst_80 ?_
        refine tt_iret X ⟨hr.1, hr.2.1⟩ (by decide) (by decide) dX9_worst_81 ?_
        first
          | exact ⟨rfl, by rw [if_neg (by omega)], μ 38, μ 39, (μ 40 3, μ 40 4, μ 40 5), hCh, skM_id⟩
          | (refine ⟨rfl, ?_, f, z, _, hc, rfl⟩
             rw [if_pos (by omega), ← hw3]
             try simp only [skM_3, skM_4, skM_5]
             first
               | (rw [if_pos (by first | assumption | omega)]; done)
               | (rw [if_neg (by first | assumption | omega), if_pos (by omega)]; done)
               | (rw [if_neg (by first | assumption | omega), if_neg (by omega), if_pos (by omega)]; done)
               | (rw [if_neg (by first | assumption | omega), if_neg (by omega), if_neg (by omega), if_pos (by omega)]; done)
               | (rw [if_neg (by first | assumption | omega), if_neg (by omega), if_neg (by omega), if_neg (by omega)]; done))
      · refine tt_tabOut X 80 (by omega) dX9_worst_31 (Or.inr sw) (by decide) ?_
        refine tt_iconst X dX9_worst_80 ?_
        refine tt_iret X ⟨hr.1, hr.2.1⟩ (by decide) (by decide) dX9_worst_81 ?_
        first
          | exact ⟨rfl, by rw [if_neg (by omega)], μ 38, μ 39, (μ 40 3, μ 40 4, μ 40 5), hCh, skM_id⟩
          | (refine ⟨rfl, ?_, f, z, _, hc, rfl⟩
             rw [if_pos (by omega), ← hw3]
             try simp only [skM_3, skM_4, skM_5]
             first
               | (rw [if_pos (by first | assumption | omega)]; done)
               | (rw [if_neg (by first | assumption | omega), if_pos (by omega)]; done)
               | (rw [if_neg (by first | assumption | omega), if_neg (by omega), if_pos (by omega)]; done)
               | (rw [if_neg (by first | assumption | omega), if_neg (by omega), if_neg (by omega), if_pos (by omega)]; done)
               | (rw [if_neg (by first | assumption | omega), if_neg (by omega), if_neg (by omega), if_neg (by omega)]; done))
      · refine tt_tabIn X 56 (by omega) dX9_worst_31 (by omega) (by omega) (by rw [sw]; rfl) (by decide) ?_
        refine tt_aload_n X rfl dX9_worst_56 ?_
        refine tt_getr X fX9_33 (k_0 _ _) (by decide) ⟨nofun, nofun⟩ rfl dX9_worst_57 ?_
        refine tt_geti X fX9_227 (k_40 _ _) (by decide) (Or.inl rfl) dX9_worst_60 ?_
        try simp (disch := decide) only [ot_rd, ot_rs, ot_rf, ot_ucd, ot_ucs]
        refine tt_iret X ⟨hr.1, hr.2.1⟩ (by decide) (by decide) dX9_worst_63 ?_
        first
          | exact ⟨rfl, by rw [if_neg (by omega)], μ 38, μ 39, (μ 40 3, μ 40 4, μ 40 5), hCh, skM_id⟩
          | (refine ⟨rfl, ?_, f, z, _, hc, rfl⟩
             rw [if_pos (by omega), ← hw3]
             try simp only [skM_3, skM_4, skM_5]
             first
               | (rw [if_pos (by first | assumption | omega)]; done)
               | (rw [if_neg (by first | assumption | omega), if_pos (by omega)]; done)
               | (rw [if_neg (by first | assumption | omega), if_neg (by omega), if_pos (by omega)]; done)
               | (rw [if_neg (by first | assumption | omega), if_neg (by omega), if_neg (by omega), if_pos (by omega)]; done)
               | (rw [if_neg (by first | assumption | omega), if_neg (by omega), if_neg (by omega), if_neg (by omega)]; done))
      · refine tt_tabIn X 64 (by omega) dX9_worst_31 (by omega) (by omega) (by rw [sw]; rfl) (by decide) ?_
        refine tt_aload_n X rfl dX9_worst_64 ?_
        refine tt_getr X fX9_33 (k_0 _ _) (by decide) ⟨nofun, nofun⟩ rfl dX9_worst_65 ?_
        refine tt_geti X fX9_230 (k_40 _ _) (by decide) (Or.inl rfl) dX9_worst_68 ?_
        try simp (disch := decide) only [ot_rd, ot_rs, ot_rf, ot_ucd, ot_ucs]
        refine tt_iret X ⟨hr.1, hr.2.1⟩ (by decide) (by decide) dX9_worst_71 ?_
        first
          | exact ⟨rfl, by rw [if_neg (by omega)], μ 38, μ 39, (μ 40 3, μ 40 4, μ 40 5), hCh, skM_id⟩
          | (refine ⟨rfl, ?_, f, z, _, hc, rfl⟩
             rw [if_pos (by omega), ← hw3]
             try simp only [skM_3, skM_4, skM_5]
             first
               | (rw [if_pos (by first | assumption | omega)]; done)
               | (rw [if_neg (by first | assumption | omega), if_pos (by omega)]; done)
               | (rw [if_neg (by first | assumption | omega), if_neg (by omega), if_pos (by omega)]; done)
               | (rw [if_neg (by first | assumption | omega), if_neg (by omega), if_neg (by omega), if_pos (by omega)]; done)
               | (rw [if_neg (by first | assumption | omega), if_neg (by omega), if_neg (by omega), if_neg (by omega)]; done))
      · refine tt_tabIn X 72 (by omega) dX9_worst_31 (by omega) (by omega) (by rw [sw]; rfl) (by decide) ?_
        refine tt_aload_n X rfl dX9_worst_72 ?_
        refine tt_getr X fX9_33 (k_0 _ _) (by decide) ⟨nofun, nofun⟩ rfl dX9_worst_73 ?_
        refine tt_geti X fX9_217 (k_40 _ _) (by decide) (Or.inl rfl) dX9_worst_76 ?_
        try simp (disch := decide) only [ot_rd, ot_rs, ot_rf, ot_ucd, ot_ucs]
        refine tt_iret X ⟨hr.1, hr.2.1⟩ (by decide) (by decide) dX9_worst_79 ?_
        first
          | exact ⟨rfl, by rw [if_neg (by omega)], μ 38, μ 39, (μ 40 3, μ 40 4, μ 40 5), hCh, skM_id⟩
          | (refine ⟨rfl, ?_, f, z, _, hc, rfl⟩
             rw [if_pos (by omega), ← hw3]
             try simp only [skM_3, skM_4, skM_5]
             first
               | (rw [if_pos (by first | assumption | omega)]; done)
               | (rw [if_neg (by first | assumption | omega), if_pos (by omega)]; done)
               | (rw [if_neg (by first | assumption | omega), if_neg (by omega), if_pos (by omega)]; done)
               | (rw [if_neg (by first | assumption | omega), if_neg (by omega), if_neg (by omega), if_pos (by omega)]; done)
               | (rw [if_neg (by first | assumption | omega), if_neg (by omega), if_neg (by omega), if_neg (by omega)]; done))
    · refine tt_iconst X dX9_worst_28 ?_
      refine tt_iret X ⟨hr.1, hr.2.1⟩ (by decide) (by decide) dX9_worst_29 ?_
      first
        | exact ⟨rfl, by rw [if_neg (by omega)], μ 38, μ 39, (μ 40 3, μ 40 4, μ 40 5), hCh, skM_id⟩
        | (refine ⟨rfl, ?_, f, z, _, hc, rfl⟩
           rw [if_pos (by omega), ← hw3]
           try simp only [skM_3, skM_4, skM_5]
           first
             | (rw [if_pos (by first | assumption | omega)]; done)
             | (rw [if_neg (by first | assumption | omega), if_pos (by omega)]; done)
             | (rw [if_neg (by first | assumption | omega), if_neg (by omega), if_pos (by omega)]; done)
             | (rw [if_neg (by first | assumption | omega), if_neg (by omega), if_neg (by omega), if_pos (by omega)]; done)
             | (rw [if_neg (by first | assumption | omega), if_neg (by omega), if_neg (by omega), if_neg (by omega)]; done))
  · refine tt_iconst X dX9_worst_7 ?_
    refine tt_iret X ⟨hr.1, hr.2.1⟩ (by decide) (by decide) dX9_worst_8 ?_
    first
      | exact ⟨rfl, by rw [if_neg (by omega)], μ 38, μ 39, (μ 40 3, μ 40 4, μ 40 5), hCh, skM_id⟩
      | (refine ⟨rfl, ?_, f, z, _, hc, rfl⟩
         rw [if_pos (by omega), ← hw3]
         try simp only [skM_3, skM_4, skM_5]
         first
           | (rw [if_pos (by first | assumption | omega)]; done)
           | (rw [if_neg (by first | assumption | omega), if_pos (by omega)]; done)
           | (rw [if_neg (by first | assumption | omega), if_neg (by omega), if_pos (by omega)]; done)
           | (rw [if_neg (by first | assumption | omega), if_neg (by omega), if_neg (by omega), if_pos (by omega)]; done)
           | (rw [if_neg (by first | assumption | omega), if_neg (by omega), if_neg (by omega), if_neg (by omega)]; done))

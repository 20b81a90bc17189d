/-- what is wanted is in its bounds, and nothing outside of the board -/
def gWnt (S : Int) (want : Int → Int) : Prop := ∀ p k, 0 ≤ p → p < 4 → 0 ≤ k → k < 64 → (0 ≤ want (64 * p + k) ∧ want (64 * p + k) ≤ 999) ∧ (¬ (k % 8 < S ∧ k / 8 < S) → want (64 * p + k) = 0)
theorem gFar_of {S p : Int} {want d : Int → Int} (h : gWnt S want) (hp : 0 ≤ p ∧ p < 4) (hd : ∀ k, 0 ≤ k → k < 64 → -100 ≤ d k ∧ d k ≤ 30000) : gFar want d p := fun k k1 k2 => by
  have := (h p k hp.1 hp.2 k1 k2).1
  have := hd k k1 k2
  omega
theorem mf82 {μ : ot_M} {f f2 D D2 : Int → Int} : ot_uc (ot_uc (ot_uc (ot_uc μ 82 f) 83 D) 82 f2) 83 D2 = ot_uc (ot_uc μ 82 f2) 83 D2 := ot_uc4 (by decide)
set_option maxRecDepth 100000 in
set_option maxHeartbeats 1000000 in
theorem q_worst (l : Launch) (g : ot_G) (ln : Nat) (ext : ot_L) (μ : ot_M) (h0 : μ 60 0 = 0) (q w : Int) (g0 : Int → Int → Int) (D0 : Int → Int) (hD0 : D0 = dk (μ 60 1) (μ 61) (μ 62) (μ 64) (μ 65) (μ 63)) (hg0 : g0 = (fun t i => gainS (fun k => μ 67 k + 1) (μ 66) D0 (smp (μ 60 1) (μ 61) (μ 62) (μ 65 (120 * t + i)) (μ 65 (120 * t + i + 1))) q (-(μ 63 t)))) (hq : -2147483648 ≤ q ∧ q ≤ 2147483647) (hw : -2147483648 ≤ w ∧ w ≤ 2147483647)(hG : gPin (μ 60 1) (μ 60 2) (μ 61) (μ 62)) (hW : gWnd (μ 60 2) (μ 64) (μ 65)) (hWn : gWnt (μ 60 1) (μ 66)) (hs : gShd (μ 63)) (hw0 : ∀ k, 0 ≤ k → k < 64 → 0 ≤ μ 67 k + 1 ∧ μ 67 k + 1 ≤ 9)  : ot_C l g yX10_worst cX10_worst 9 (some .int) 5 0 0 [.inr 60, .inl q, .inl w] (LL ln ext) μ (ot_pi (fun r L2 μ2 => L2 = LL ln ext ∧ r = (if 0 ≤ q ∧ q < 4 then (if (wAll g0 (μ 64) 3).1 = -1 then -1 else if w = 0 then (wAll g0 (μ 64) 3).1 else if w = 1 then (wAll g0 (μ 64) 3).2.1 else if w = 2 then (wAll g0 (μ 64) 3).2.2 else -1) else -1) ∧ ∃ f D, μ2 = ot_uc (ot_uc μ 82 f) 83 D)) := by
  refine ot_enter (by decide) (Nat.le_of_ble_eq_true rfl) ?_
  intro p e s m args below meth c X hr
  have hS := hG.1
  have hNn := hG.2.1
  have hga : ∀ t i, g0 t i = gainS (fun k => μ 67 k + 1) (μ 66) D0 (smp (μ 60 1) (μ 61) (μ 62) (μ 65 (120 * t + i)) (μ 65 (120 * t + i + 1))) q (-(μ 63 t)) := fun t i => by rw [hg0]
  have hD1 : ∀ k, 0 ≤ D0 k ∧ D0 k ≤ 25704 := fun k => by rw [hD0]; exact dk_bd hG hW hs k
  have hD2 : ∀ k, ¬ (k % 8 < μ 60 1 ∧ k / 8 < μ 60 1) → D0 k = 0 := fun k hk => by rw [hD0]; exact dk_out hG hW hk
  clear hg0
  refine tt_aload_n X rfl dX10_worst_0 ?_
  refine tt_iconst X dX10_worst_1 ?_
  refine tt_puti X fX10_98 kc_10 (k_60 _ _) (by decide) (fun q hq => by cases hq; rfl) rfl dX10_worst_2 ?_
  refine tt_mem (ot_nop h0) ?_
  refine tt_aload_n X rfl dX10_worst_5 ?_
  refine tt_iload_n X rfl dX10_worst_6 ?_
  refine tt_vi X rfl mX10_117 (q_isPicture l g ln ext _ _ (by first | omega | (simp (disch := decide) only [ot_rd, ot_rs, ot_rf, ot_ucd, ot_ucs]; omega))) (k_60 _ _) ⟨_, rfl, rfl⟩ rfl rfl (Nat.le_of_ble_eq_true rfl) (by decide) (by decide) (by decide) dX10_worst_7 (fun z7 L7 μ7 hp => ?_)
  obtain ⟨rfl, e7, hz7⟩ := hp
  replace e7 := e7.symm
  subst e7
  try simp (disch := decide) only [ot_rd, ot_rs, ot_rf, ot_ucd, ot_ucs] at hz7
  refine tt_if_eq X 23 (by first | omega | (simp (disch := decide) only [ot_rd, ot_rs, ot_rf, ot_ucd, ot_ucs]; omega)) dX10_worst_10 (by decide) (fun b10 => ?_) (fun b10 => ?_)
  · refine tt_iconst X dX10_worst_23 ?_
    refine tt_iret X ⟨hr.1, hr.2.1⟩ (by decide) (by decide) dX10_worst_24 ?_
    refine ⟨rfl, ?_, μ 82, μ 83, by rw [ot_uc_id (k := 83) (by simp (disch := decide) only [ot_ucd]), ot_uc_self]⟩
    by_cases hq4 : 0 ≤ q ∧ q < 4
    · rw [if_pos hq4]
      split
      · rfl
      · rw [if_neg (by omega), if_neg (by omega), if_neg (by omega)]
    · rw [if_neg hq4]
  · refine tt_aload_n X rfl dX10_worst_13 ?_
    refine tt_iload_n X rfl dX10_worst_14 ?_
    refine tt_iconst X dX10_worst_15 ?_
    refine tt_iconst X dX10_worst_16 ?_
    refine tt_vi X rfl mX10_104 (q_isIn l g ln ext _ _ _ _ (by first | omega | (simp (disch := decide) only [ot_rd, ot_rs, ot_rf, ot_ucd, ot_ucs]; omega)) (by first | omega | (simp (disch := decide) only [ot_rd, ot_rs, ot_rf, ot_ucd, ot_ucs]; omega)) (by first | omega | (simp (disch := decide) only [ot_rd, ot_rs, ot_rf, ot_ucd, ot_ucs]; omega))) (k_60 _ _) ⟨_, rfl, rfl⟩ rfl rfl (Nat.le_of_ble_eq_true rfl) (by decide) (by decide) (by decide) dX10_worst_17 (fun z17 L17 μ17 hp => ?_)
    obtain ⟨rfl, e17, hz17⟩ := hp
    replace e17 := e17.symm
    subst e17
    try simp (disch := decide) only [ot_rd, ot_rs, ot_rf, ot_ucd, ot_ucs] at hz17
    refine tt_if_ne X 25 (by first | omega | (simp (disch := decide) only [ot_rd, ot_rs, ot_rf, ot_ucd, ot_ucs]; omega)) dX10_worst_20 (by decide) (fun b20 => ?_) (fun b20 => ?_)
    · refine tt_aload_n X rfl dX10_worst_25 ?_
      refine tt_vv X rfl mX10_264 (q_findsDark l g ln ext _ hG hW) (k_60 _ _) ⟨_, rfl, rfl⟩ rfl rfl (Nat.le_of_ble_eq_true rfl) (by decide) (by decide) (by decide) dX10_worst_26 (fun L26 μ26 hp => ?_)
      obtain ⟨rfl, f, rfl⟩ := hp
      rw [← hD0]
      refine tt_aload_n X rfl dX10_worst_29 ?_
      refine tt_iload_n X rfl dX10_worst_30 ?_
      refine tt_vi X rfl mX10_267 (q_farOf l g ln ext _ q (by omega) (by simp (disch := decide) only [ot_ucd, ot_ucs, ot_rd, ot_rs, ot_rf]; omega) (by simp (disch := decide) only [ot_ucd, ot_ucs, ot_rd, ot_rs, ot_rf]; exact gFar_of hWn (by omega) (fun k k1 k2 => by rw [wr_in ⟨k1, k2⟩]; exact (by have := hD1 k; omega)))) (k_60 _ _) ⟨_, rfl, rfl⟩ rfl rfl (Nat.le_of_ble_eq_true rfl) (by decide) (by decide) (by decide) dX10_worst_31 (fun z31 L31 μ31 hp => ?_)
      obtain ⟨rfl, e31, hz31⟩ := hp
      replace e31 := e31.symm
      subst e31
      simp (disch := decide) only [ot_ucd, ot_ucs, ot_rd, ot_rs, ot_rf] at hz31
      rw [farM_congr (d2 := D0) (fun k k1 k2 => wr_in (old := μ 83) (new := D0) ⟨k1, k2⟩)] at hz31
      try simp (disch := decide) only [ot_rd, ot_rs, ot_rf, ot_ucd, ot_ucs] at hz31
      refine tt_istore_n X dX10_worst_34 (by decide) ?_
      refine tt_iload_n X rfl dX10_worst_35 ?_
      refine tt_istore X dX10_worst_36 (by decide) ?_
      refine tt_iconst X dX10_worst_38 ?_
      refine tt_istore X dX10_worst_39 (by decide) ?_
      refine tt_iconst X dX10_worst_41 ?_
      refine tt_istore X dX10_worst_42 (by decide) ?_
      obtain ⟨F0, hF0⟩ : ∃ F0, F0 = farS (fun k => μ 67 k + 1) (μ 66) D0 q := ⟨_, rfl⟩
      have hFb : 0 ≤ F0 ∧ F0 ≤ 17856000 := by rw [hF0]; exact farS_bd hw0 (fun k k1 k2 => (hWn q k (by omega) (by omega) k1 k2).1) (fun k _ _ => by have := hD1 k; omega)
      have hz31' : z31 = F0 := by rw [hz31, hF0]; exact farM_S (fun k k1 k2 hk => ⟨(hWn q k (by omega) (by omega) k1 k2).2 hk, hD2 k hk⟩)
      clear hz31
      subst hz31'
      refine tt_loc [(0, .inr 60), (1, .inl q), (2, .inl w), (3, .inl z31), (4, .inl (z31 - 0)), (5, .inl (if (-1 : Int) = -1 then -1 else 120 * (-1) + -1)), (6, .inl 0)] ⟨rfl, rfl, rfl, rfl, (by show some (Sum.inl z31) = some (Sum.inl (z31 - 0)); rw [Int.sub_zero]), rfl, rfl, trivial⟩ ?_
      refine tt_loc [(0, _), (1, _), (2, _), (3, _), (4, _), (5, _), (6, _)] ⟨rfl, rfl, rfl, rfl, rfl, rfl, rfl, trivial⟩ ?_
      refine tt_loop (α := Int × (Int → Int) × Int × Int × Int) (fun ((t, f, a, b, c0)) => (3 - t).toNat) (fun ((t, f, a, b, c0)) => (0 ≤ t ∧ t ≤ 3) ∧ (a, b, c0) = wAll g0 (μ 64) t.toNat ∧ (-1 ≤ a ∧ a ≤ 2) ∧ (-1 ≤ b ∧ b < 120) ∧ (0 ≤ c0 ∧ c0 ≤ 41472) ∧ (a = -1 ↔ b = -1)) (fun ((t, f, a, b, c0)) => ot_uc (ot_uc μ 82 f) 83 (wr 64 (μ 83) D0)) (fun ((t, f, a, b, c0)) => [(0, .inr 60), (1, .inl q), (2, .inl w), (3, .inl z31), (4, .inl (z31 - c0)), (5, .inl (if a = -1 then -1 else 120 * a + b)), (6, .inl t)]) (0, f, -1, -1, 0) ⟨by show 0 ≤ (0 : Int) ∧ (0 : Int) ≤ 3; omega, rfl, by show ((-1 : Int) ≤ -1 ∧ (-1 : Int) ≤ 2) ∧ ((-1 : Int) ≤ -1 ∧ (-1 : Int) < 120) ∧ ((0 : Int) ≤ 0 ∧ (0 : Int) ≤ 41472) ∧ ((-1 : Int) = -1 ↔ (-1 : Int) = -1); omega⟩ ?_
      intro a hIt iht
      obtain ⟨t, f, a, b, c0⟩ := a
      try dsimp only at hIt iht ⊢
      replace hIt : (0 ≤ t ∧ t ≤ 3) ∧ (a, b, c0) = wAll g0 (μ 64) t.toNat ∧ (-1 ≤ a ∧ a ≤ 2) ∧ (-1 ≤ b ∧ b < 120) ∧ (0 ≤ c0 ∧ c0 ≤ 41472) ∧ (a = -1 ↔ b = -1) := hIt
      have ht := hIt.1
      have hbt := hIt.2.2
      refine tt_iload X rfl dX10_worst_44 ?_
      refine tt_iconst X dX10_worst_46 ?_
      refine tt_icmp_ge X 169 (by first | omega | (simp (disch := decide) only [ot_rd, ot_rs, ot_rf, ot_ucd, ot_ucs]; omega)) dX10_worst_47 (by decide) (fun b47 => ?_) (fun b47 => ?_)
      · refine tt_iload X rfl dX10_worst_169 ?_
        refine tt_iconst X dX10_worst_171 ?_
        refine tt_icmp_ne X 177 (by first | omega | (simp (disch := decide) only [ot_rd, ot_rs, ot_rf, ot_ucd, ot_ucs]; omega)) dX10_worst_172 (by decide) (fun b172 => ?_) (fun b172 => ?_)
        · refine tt_iload_n X rfl dX10_worst_177 ?_
          refine tt_if_ne X 189 (by first | omega | (simp (disch := decide) only [ot_rd, ot_rs, ot_rf, ot_ucd, ot_ucs]; omega)) dX10_worst_178 (by decide) (fun b178 => ?_) (fun b178 => ?_)
          · refine tt_iload_n X rfl dX10_worst_189 ?_
            refine tt_iconst X dX10_worst_190 ?_
            refine tt_icmp_ne X 202 (by first | omega | (simp (disch := decide) only [ot_rd, ot_rs, ot_rf, ot_ucd, ot_ucs]; omega)) dX10_worst_191 (by decide) (fun b191 => ?_) (fun b191 => ?_)
            · refine tt_iload_n X rfl dX10_worst_202 ?_
              refine tt_iload X rfl dX10_worst_203 ?_
              refine tt_isub X dX10_worst_205 ?_
              refine tt_iret X ⟨hr.1, hr.2.1⟩ (by decide) (by decide) dX10_worst_206 ?_
              refine ⟨rfl, ?_, f, _, rfl⟩
              have e : (a, b, c0) = wAll g0 (μ 64) 3 := by rw [hIt.2.1, show t = 3 by omega]; rfl
              have ha : ¬ a = -1 := fun ha => by rw [if_pos ha] at b172; omega
              have hq4 : 0 ≤ q ∧ q < 4 := by omega
              rw [if_pos hq4, ← e]
              show _ = if a = -1 then -1 else if w = 0 then a else if w = 1 then b else if w = 2 then c0 else -1
              simp only [if_neg ha]
              first
                | (rw [if_pos (by omega), bo_div (by omega) (by omega)]; omega)
                | (rw [if_neg (by omega), if_pos (by omega), bo_rem (by omega) (by omega)]; omega)
                | (rw [if_neg (by omega), if_neg (by omega), if_pos (by omega)]; omega)
            · refine tt_iload X rfl dX10_worst_194 ?_
              refine tt_bipush X (by decide) dX10_worst_196 ?_
              refine tt_irem X (by omega) dX10_worst_198 ?_
              refine tt_goto X 206 dX10_worst_199 (by decide) ?_
              refine tt_iret X ⟨hr.1, hr.2.1⟩ (by decide) (by decide) dX10_worst_206 ?_
              refine ⟨rfl, ?_, f, _, rfl⟩
              have e : (a, b, c0) = wAll g0 (μ 64) 3 := by rw [hIt.2.1, show t = 3 by omega]; rfl
              have ha : ¬ a = -1 := fun ha => by rw [if_pos ha] at b172; omega
              have hq4 : 0 ≤ q ∧ q < 4 := by omega
              rw [if_pos hq4, ← e]
              show _ = if a = -1 then -1 else if w = 0 then a else if w = 1 then b else if w = 2 then c0 else -1
              simp only [if_neg ha]
              first
                | (rw [if_pos (by omega), bo_div (by omega) (by omega)]; omega)
                | (rw [if_neg (by omega), if_pos (by omega), bo_rem (by omega) (by omega)]; omega)
                | (rw [if_neg (by omega), if_neg (by omega), if_pos (by omega)]; omega)
          · refine tt_iload X rfl dX10_worst_181 ?_
            refine tt_bipush X (by decide) dX10_worst_183 ?_
            refine tt_idiv X (by omega) dX10_worst_185 ?_
            refine tt_goto X 206 dX10_worst_186 (by decide) ?_
            refine tt_iret X ⟨hr.1, hr.2.1⟩ (by decide) (by decide) dX10_worst_206 ?_
            refine ⟨rfl, ?_, f, _, rfl⟩
            have e : (a, b, c0) = wAll g0 (μ 64) 3 := by rw [hIt.2.1, show t = 3 by omega]; rfl
            have ha : ¬ a = -1 := fun ha => by rw [if_pos ha] at b172; omega
            have hq4 : 0 ≤ q ∧ q < 4 := by omega
            rw [if_pos hq4, ← e]
            show _ = if a = -1 then -1 else if w = 0 then a else if w = 1 then b else if w = 2 then c0 else -1
            simp only [if_neg ha]
            first
              | (rw [if_pos (by omega), bo_div (by omega) (by omega)]; omega)
              | (rw [if_neg (by omega), if_pos (by omega), bo_rem (by omega) (by omega)]; omega)
              | (rw [if_neg (by omega), if_neg (by omega), if_pos (by omega)]; omega)
        · refine tt_iconst X dX10_worst_175 ?_
          refine tt_iret X ⟨hr.1, hr.2.1⟩ (by decide) (by decide) dX10_worst_176 ?_
          refine ⟨rfl, ?_, f, _, rfl⟩
          have e : (a, b, c0) = wAll g0 (μ 64) 3 := by rw [hIt.2.1, show t = 3 by omega]; rfl
          have ha : a = -1 := Classical.byContradiction (fun ha => by rw [if_neg ha] at b172; omega)
          rw [if_pos (by omega), ← e]
          show _ = if a = -1 then -1 else _
          rw [if_pos ha]
      · refine tt_iconst X dX10_worst_50 ?_
        refine tt_istore X dX10_worst_51 (by decide) ?_
        have hWt := hW t (by omega) (by omega)
        refine tt_loc [(0, _), (1, _), (2, _), (3, _), (4, _), (5, _), (6, _), (7, _)] ⟨rfl, rfl, rfl, rfl, rfl, rfl, rfl, rfl, trivial⟩ ?_
        refine tt_loop (α := Int × (Int → Int) × Int × Int × Int) (fun ((i, f, a, b, c0)) => (μ 64 t - i).toNat) (fun ((i, f, a, b, c0)) => (0 ≤ i ∧ (i + 1 ≤ μ 64 t ∨ (i = 0 ∧ μ 64 t = 0))) ∧ (a, b, c0) = wIn g0 t (wAll g0 (μ 64) t.toNat) i.toNat ∧ (-1 ≤ a ∧ a ≤ 2) ∧ (-1 ≤ b ∧ b < 120) ∧ (0 ≤ c0 ∧ c0 ≤ 41472) ∧ (a = -1 ↔ b = -1)) (fun ((i, f, a, b, c0)) => ot_uc (ot_uc μ 82 f) 83 (wr 64 (μ 83) D0)) (fun ((i, f, a, b, c0)) => [(0, .inr 60), (1, .inl q), (2, .inl w), (3, .inl z31), (4, .inl (z31 - c0)), (5, .inl (if a = -1 then -1 else 120 * a + b)), (6, .inl t), (7, .inl i)]) (0, f, a, b, c0) ⟨by show 0 ≤ (0 : Int) ∧ ((0 : Int) + 1 ≤ μ 64 t ∨ ((0 : Int) = 0 ∧ μ 64 t = 0)); omega, hIt.2.1, hbt⟩ ?_
        intro a hI ih
        obtain ⟨i, f, a, b, c0⟩ := a
        try dsimp only at hI ih ⊢
        replace hI : (0 ≤ i ∧ (i + 1 ≤ μ 64 t ∨ (i = 0 ∧ μ 64 t = 0))) ∧ (a, b, c0) = wIn g0 t (wAll g0 (μ 64) t.toNat) i.toNat ∧ (-1 ≤ a ∧ a ≤ 2) ∧ (-1 ≤ b ∧ b < 120) ∧ (0 ≤ c0 ∧ c0 ≤ 41472) ∧ (a = -1 ↔ b = -1) := hI
        have hi := hI.1
        have hbd := hI.2.2
        refine tt_iload X rfl dX10_worst_53 ?_
        refine tt_iconst X dX10_worst_55 ?_
        refine tt_iadd X dX10_worst_56 ?_
        refine tt_aload_n X rfl dX10_worst_57 ?_
        refine tt_getr X fX10_23 (k_60 _ _) (by decide) ⟨nofun, nofun⟩ rfl dX10_worst_58 ?_
        refine tt_iload X rfl dX10_worst_61 ?_
        refine tt_iaload X (k_64 _ _) (by first | omega | (simp (disch := decide) only [ot_rd, ot_rs, ot_rf, ot_ucd, ot_ucs]; omega)) dX10_worst_63 ?_
        try simp (disch := decide) only [ot_rd, ot_rs, ot_rf, ot_ucd, ot_ucs]
        refine tt_icmp_ge X 163 (by first | omega | (simp (disch := decide) only [ot_rd, ot_rs, ot_rf, ot_ucd, ot_ucs]; omega)) dX10_worst_64 (by decide) (fun b64 => ?_) (fun b64 => ?_)
        · refine tt_iinc X dX10_worst_163 rfl (by decide) ?_
          refine tt_goto X 44 dX10_worst_166 (by decide) ?_
          refine tt_loc [(0, _), (1, _), (2, _), (3, _), (4, _), (5, _), (6, _)] ⟨rfl, rfl, rfl, rfl, rfl, rfl, rfl, trivial⟩ ?_
          have e : (a, b, c0) = wAll g0 (μ 64) (t + 1).toNat := by
            rw [wAll_toNat _ _ hIt.1.1, hI.2.1]
            rcases (show i = μ 64 t - 1 ∨ (μ 64 t = 0 ∧ i = 0) by omega) with w | w
            · rw [w]
            · rw [w.1, w.2]; rfl
          exact iht (t + 1, f, a, b, c0) ⟨by show 0 ≤ t + 1 ∧ t + 1 ≤ 3; omega, e, hI.2.2⟩ (by show (3 - (t + 1)).toNat < (3 - t).toNat; omega)
        · have hw := wnd_at hW (t := t) (i := i) (by omega) (by omega) (by omega) (by omega)
          have hst := hs t (by omega) (by omega)
          have hsb := fun k => smp_bd hG hw.1 hw.2.1 hw.2.2 k
          refine tt_aload_n X rfl dX10_worst_67 ?_
          refine tt_aload_n X rfl dX10_worst_68 ?_
          refine tt_iload X rfl dX10_worst_69 ?_
          refine tt_iload X rfl dX10_worst_71 ?_
          refine tt_vi X rfl mX10_239 (q_woundAt l g ln ext _ _ _ (by omega) (by omega)) (k_60 _ _) ⟨_, rfl, rfl⟩ rfl rfl (Nat.le_of_ble_eq_true rfl) (by decide) (by decide) (by decide) dX10_worst_73 (fun z73 L73 μ73 hp => ?_)
          obtain ⟨rfl, e73, hz73⟩ := hp
          replace e73 := e73.symm
          subst e73
          simp (disch := decide) only [ot_ucd, ot_ucs, ot_rd, ot_rs, ot_rf] at hz73
          refine tt_top hz73 ?_
          try simp (disch := decide) only [ot_rd, ot_rs, ot_rf, ot_ucd, ot_ucs] at hz73
          refine tt_aload_n X rfl dX10_worst_76 ?_
          refine tt_iload X rfl dX10_worst_77 ?_
          refine tt_iload X rfl dX10_worst_79 ?_
          refine tt_iconst X dX10_worst_81 ?_
          refine tt_iadd X dX10_worst_82 ?_
          refine tt_vi X rfl mX10_239 (q_woundAt l g ln ext _ _ _ (by omega) (by omega)) (k_60 _ _) ⟨_, rfl, rfl⟩ rfl rfl (Nat.le_of_ble_eq_true rfl) (by decide) (by decide) (by decide) dX10_worst_83 (fun z83 L83 μ83 hp => ?_)
          obtain ⟨rfl, e83, hz83⟩ := hp
          replace e83 := e83.symm
          subst e83
          simp (disch := decide) only [ot_ucd, ot_ucs, ot_rd, ot_rs, ot_rf] at hz83
          rw [show 120 * t + (i + 1) = 120 * t + i + 1 by omega] at hz83
          refine tt_top hz83 ?_
          try simp (disch := decide) only [ot_rd, ot_rs, ot_rf, ot_ucd, ot_ucs] at hz83
          refine tt_aload_n X rfl dX10_worst_86 ?_
          refine tt_getr X fX10_20 (k_60 _ _) (by decide) ⟨nofun, nofun⟩ rfl dX10_worst_87 ?_
          refine tt_iload X rfl dX10_worst_90 ?_
          refine tt_iaload X (k_63 _ _) (by first | omega | (simp (disch := decide) only [ot_rd, ot_rs, ot_rf, ot_ucd, ot_ucs]; omega)) dX10_worst_92 ?_
          try simp (disch := decide) only [ot_rd, ot_rs, ot_rf, ot_ucd, ot_ucs]
          refine tt_ineg X dX10_worst_93 ?_
          refine tt_vv X rfl mX10_242 (q_darkens l g ln ext _ (μ 65 (120 * t + i)) (μ 65 (120 * t + i + 1)) (-(μ 63 t)) (by simp (disch := decide) only [ot_ucd, ot_ucs, ot_rd, ot_rs, ot_rf]; exact hG) (by simp (disch := decide) only [ot_ucd, ot_ucs, ot_rd, ot_rs, ot_rf]; omega) (by simp (disch := decide) only [ot_ucd, ot_ucs, ot_rd, ot_rs, ot_rf]; omega) hw.2.2) (k_60 _ _) ⟨_, rfl, rfl⟩ rfl rfl (Nat.le_of_ble_eq_true rfl) (by decide) (by decide) (by decide) dX10_worst_94 (fun L94 μ94 hp => ?_)
          obtain ⟨rfl, rfl⟩ := hp
          simp (disch := decide) only [ot_ucd, ot_ucs, ot_rd, ot_rs, ot_rf]
          refine tt_mem (μ' := ot_uc (ot_uc μ 82 (wr 64 f (smp (μ 60 1) (μ 61) (μ 62) (μ 65 (120 * t + i)) (μ 65 (120 * t + i + 1))))) 83 (wr 64 (μ 83) (fun k => D0 k + -(μ 63 t) * smp (μ 60 1) (μ 61) (μ 62) (μ 65 (120 * t + i)) (μ 65 (120 * t + i + 1)) k))) (by rw [mf82, wr_wr]; congr 1; exact wr_congr (fun k k1 k2 => by rw [wr_in ⟨k1, k2⟩])) ?_
          refine tt_aload_n X rfl dX10_worst_97 ?_
          refine tt_iload_n X rfl dX10_worst_98 ?_
          refine tt_vi X rfl mX10_267 (q_farOf l g ln ext _ q (by omega) (by simp (disch := decide) only [ot_ucd, ot_ucs, ot_rd, ot_rs, ot_rf]; omega) (by simp (disch := decide) only [ot_ucd, ot_ucs, ot_rd, ot_rs, ot_rf]; exact gFar_of hWn (by omega) (fun k k1 k2 => by rw [wr_in ⟨k1, k2⟩]; exact (by have h1 := hD1 k; have h2 := mul_bd (x := -(μ 63 t)) (by omega) (hsb k); show -100 ≤ D0 k + -(μ 63 t) * _ ∧ D0 k + -(μ 63 t) * _ ≤ 30000; omega)))) (k_60 _ _) ⟨_, rfl, rfl⟩ rfl rfl (Nat.le_of_ble_eq_true rfl) (by decide) (by decide) (by decide) dX10_worst_99 (fun z99 L99 μ99 hp => ?_)
          obtain ⟨rfl, e99, hz99⟩ := hp
          replace e99 := e99.symm
          subst e99
          simp (disch := decide) only [ot_ucd, ot_ucs, ot_rd, ot_rs, ot_rf] at hz99
          rw [farM_congr (d2 := (fun k => D0 k + -(μ 63 t) * smp (μ 60 1) (μ 61) (μ 62) (μ 65 (120 * t + i)) (μ 65 (120 * t + i + 1)) k)) (fun k k1 k2 => wr_in (old := μ 83) (new := (fun k => D0 k + -(μ 63 t) * smp (μ 60 1) (μ 61) (μ 62) (μ 65 (120 * t + i)) (μ 65 (120 * t + i + 1)) k)) ⟨k1, k2⟩)] at hz99
          try simp (disch := decide) only [ot_rd, ot_rs, ot_rf, ot_ucd, ot_ucs] at hz99
          refine tt_istore X dX10_worst_102 (by decide) ?_
          refine tt_aload_n X rfl dX10_worst_104 ?_
          refine tt_aload_n X rfl dX10_worst_105 ?_
          refine tt_iload X rfl dX10_worst_106 ?_
          refine tt_iload X rfl dX10_worst_108 ?_
          refine tt_vi X rfl mX10_239 (q_woundAt l g ln ext _ _ _ (by omega) (by omega)) (k_60 _ _) ⟨_, rfl, rfl⟩ rfl rfl (Nat.le_of_ble_eq_true rfl) (by decide) (by decide) (by decide) dX10_worst_110 (fun z110 L110 μ110 hp => ?_)
          obtain ⟨rfl, e110, hz110⟩ := hp
          replace e110 := e110.symm
          subst e110
          simp (disch := decide) only [ot_ucd, ot_ucs, ot_rd, ot_rs, ot_rf] at hz110
          refine tt_top hz110 ?_
          try simp (disch := decide) only [ot_rd, ot_rs, ot_rf, ot_ucd, ot_ucs] at hz110
          refine tt_aload_n X rfl dX10_worst_113 ?_
          refine tt_iload X rfl dX10_worst_114 ?_
          refine tt_iload X rfl dX10_worst_116 ?_
          refine tt_iconst X dX10_worst_118 ?_
          refine tt_iadd X dX10_worst_119 ?_
          refine tt_vi X rfl mX10_239 (q_woundAt l g ln ext _ _ _ (by omega) (by omega)) (k_60 _ _) ⟨_, rfl, rfl⟩ rfl rfl (Nat.le_of_ble_eq_true rfl) (by decide) (by decide) (by decide) dX10_worst_120 (fun z120 L120 μ120 hp => ?_)
          obtain ⟨rfl, e120, hz120⟩ := hp
          replace e120 := e120.symm
          subst e120
          simp (disch := decide) only [ot_ucd, ot_ucs, ot_rd, ot_rs, ot_rf] at hz120
          rw [show 120 * t + (i + 1) = 120 * t + i + 1 by omega] at hz120
          refine tt_top hz120 ?_
          try simp (disch := decide) only [ot_rd, ot_rs, ot_rf, ot_ucd, ot_ucs] at hz120
          refine tt_aload_n X rfl dX10_worst_123 ?_
          refine tt_getr X fX10_20 (k_60 _ _) (by decide) ⟨nofun, nofun⟩ rfl dX10_worst_124 ?_
          refine tt_iload X rfl dX10_worst_127 ?_
          refine tt_iaload X (k_63 _ _) (by first | omega | (simp (disch := decide) only [ot_rd, ot_rs, ot_rf, ot_ucd, ot_ucs]; omega)) dX10_worst_129 ?_
          try simp (disch := decide) only [ot_rd, ot_rs, ot_rf, ot_ucd, ot_ucs]
          refine tt_vv X rfl mX10_242 (q_darkens l g ln ext _ (μ 65 (120 * t + i)) (μ 65 (120 * t + i + 1)) (μ 63 t) (by simp (disch := decide) only [ot_ucd, ot_ucs, ot_rd, ot_rs, ot_rf]; exact hG) (by simp (disch := decide) only [ot_ucd, ot_ucs, ot_rd, ot_rs, ot_rf]; omega) (by simp (disch := decide) only [ot_ucd, ot_ucs, ot_rd, ot_rs, ot_rf]; omega) hw.2.2) (k_60 _ _) ⟨_, rfl, rfl⟩ rfl rfl (Nat.le_of_ble_eq_true rfl) (by decide) (by decide) (by decide) dX10_worst_130 (fun L130 μ130 hp => ?_)
          obtain ⟨rfl, rfl⟩ := hp
          simp (disch := decide) only [ot_ucd, ot_ucs, ot_rd, ot_rs, ot_rf]
          refine tt_mem (μ' := ot_uc (ot_uc μ 82 (wr 64 (wr 64 f (smp (μ 60 1) (μ 61) (μ 62) (μ 65 (120 * t + i)) (μ 65 (120 * t + i + 1)))) (smp (μ 60 1) (μ 61) (μ 62) (μ 65 (120 * t + i)) (μ 65 (120 * t + i + 1))))) 83 (wr 64 (μ 83) D0)) (by rw [mf82]; congr 1; rw [wr_wr]; exact wr_congr (fun k k1 k2 => by rw [wr_in ⟨k1, k2⟩, Int.neg_mul]; omega)) ?_
          have hv : z99 = z31 - g0 t i := by
            rw [hz99, farM_S (fun k k1 k2 hk => ⟨(hWn q k (by omega) (by omega) k1 k2).2 hk, by rw [hD2 k hk, smp_out hG hw.1 hw.2.1 hw.2.2 hk]; omega⟩), hF0, hga]
            exact farS_gain (fun k _ _ => rfl)
          have hgb : -41472 ≤ g0 t i ∧ g0 t i ≤ 41472 := by rw [hga]; exact gainS_bd hw0 (by omega) (fun k _ _ => hsb k)
          clear hz99
          refine tt_iload X rfl dX10_worst_133 ?_
          refine tt_iload X rfl dX10_worst_135 ?_
          refine tt_icmp_lt X 143 (by first | omega | (simp (disch := decide) only [ot_rd, ot_rs, ot_rf, ot_ucd, ot_ucs]; omega)) dX10_worst_137 (by decide) (fun b137 => ?_) (fun b137 => ?_)
          · refine tt_iload X rfl dX10_worst_143 ?_
            refine tt_istore X dX10_worst_145 (by decide) ?_
            refine tt_bipush X (by decide) dX10_worst_147 ?_
            refine tt_iload X rfl dX10_worst_149 ?_
            refine tt_imul X dX10_worst_151 ?_
            refine tt_iload X rfl dX10_worst_152 ?_
            refine tt_iadd X dX10_worst_154 ?_
            refine tt_istore X dX10_worst_155 (by decide) ?_
            refine tt_iinc X dX10_worst_157 rfl (by decide) ?_
            refine tt_goto X 53 dX10_worst_160 (by decide) ?_
            refine tt_loc [(0, _), (1, _), (2, _), (3, _), (4, _), (5, _), (6, _), (7, _)] ⟨rfl, rfl, rfl, rfl, rfl, rfl, rfl, rfl, trivial⟩ ?_
            have e := wIn_toNat g0 t (wAll g0 (μ 64) t.toNat) hI.1.1
            rw [← hI.2.1] at e
            replace e : wIn g0 t (wAll g0 (μ 64) t.toNat) (i + 1).toNat = if c0 < g0 t i then (t, i, g0 t i) else (a, b, c0) := e
            first
              | exact ih (i + 1, wr 64 (wr 64 f (smp (μ 60 1) (μ 61) (μ 62) (μ 65 (120 * t + i)) (μ 65 (120 * t + i + 1)))) (smp (μ 60 1) (μ 61) (μ 62) (μ 65 (120 * t + i)) (μ 65 (120 * t + i + 1))), a, b, c0) ⟨by show 0 ≤ i + 1 ∧ (i + 1 + 1 ≤ μ 64 t ∨ (i + 1 = 0 ∧ μ 64 t = 0)); omega, by show (a, b, c0) = _; rw [e, if_neg (by omega)], hI.2.2⟩ (by show (μ 64 t - (i + 1)).toNat < (μ 64 t - i).toNat; omega)
              | (refine tt_loc [(0, .inr 60), (1, .inl q), (2, .inl w), (3, .inl z31), (4, .inl (z31 - g0 t i)), (5, .inl (if t = -1 then -1 else 120 * t + i)), (6, .inl t), (7, .inl (i + 1))] ⟨rfl, rfl, rfl, rfl, (by show some (Sum.inl z99) = _; rw [hv]), (by rw [if_neg (by omega)]; rfl), rfl, rfl, trivial⟩ ?_
                 exact ih (i + 1, wr 64 (wr 64 f (smp (μ 60 1) (μ 61) (μ 62) (μ 65 (120 * t + i)) (μ 65 (120 * t + i + 1)))) (smp (μ 60 1) (μ 61) (μ 62) (μ 65 (120 * t + i)) (μ 65 (120 * t + i + 1))), t, i, g0 t i) ⟨by show 0 ≤ i + 1 ∧ (i + 1 + 1 ≤ μ 64 t ∨ (i + 1 = 0 ∧ μ 64 t = 0)); omega, by show (t, i, g0 t i) = _; rw [e, if_pos (by omega)], by show (-1 ≤ t ∧ t ≤ 2) ∧ (-1 ≤ i ∧ i < 120) ∧ (0 ≤ g0 t i ∧ g0 t i ≤ 41472) ∧ (t = -1 ↔ i = -1); omega⟩ (by show (μ 64 t - (i + 1)).toNat < (μ 64 t - i).toNat; omega))
          · refine tt_goto X 157 dX10_worst_140 (by decide) ?_
            refine tt_iinc X dX10_worst_157 rfl (by decide) ?_
            refine tt_goto X 53 dX10_worst_160 (by decide) ?_
            refine tt_loc [(0, _), (1, _), (2, _), (3, _), (4, _), (5, _), (6, _), (7, _)] ⟨rfl, rfl, rfl, rfl, rfl, rfl, rfl, rfl, trivial⟩ ?_
            have e := wIn_toNat g0 t (wAll g0 (μ 64) t.toNat) hI.1.1
            rw [← hI.2.1] at e
            replace e : wIn g0 t (wAll g0 (μ 64) t.toNat) (i + 1).toNat = if c0 < g0 t i then (t, i, g0 t i) else (a, b, c0) := e
            first
              | exact ih (i + 1, wr 64 (wr 64 f (smp (μ 60 1) (μ 61) (μ 62) (μ 65 (120 * t + i)) (μ 65 (120 * t + i + 1)))) (smp (μ 60 1) (μ 61) (μ 62) (μ 65 (120 * t + i)) (μ 65 (120 * t + i + 1))), a, b, c0) ⟨by show 0 ≤ i + 1 ∧ (i + 1 + 1 ≤ μ 64 t ∨ (i + 1 = 0 ∧ μ 64 t = 0)); omega, by show (a, b, c0) = _; rw [e, if_neg (by omega)], hI.2.2⟩ (by show (μ 64 t - (i + 1)).toNat < (μ 64 t - i).toNat; omega)
              | (refine tt_loc [(0, .inr 60), (1, .inl q), (2, .inl w), (3, .inl z31), (4, .inl (z31 - g0 t i)), (5, .inl (if t = -1 then -1 else 120 * t + i)), (6, .inl t), (7, .inl (i + 1))] ⟨rfl, rfl, rfl, rfl, (by show some (Sum.inl z99) = _; rw [hv]), (by rw [if_neg (by omega)]; rfl), rfl, rfl, trivial⟩ ?_
                 exact ih (i + 1, wr 64 (wr 64 f (smp (μ 60 1) (μ 61) (μ 62) (μ 65 (120 * t + i)) (μ 65 (120 * t + i + 1)))) (smp (μ 60 1) (μ 61) (μ 62) (μ 65 (120 * t + i)) (μ 65 (120 * t + i + 1))), t, i, g0 t i) ⟨by show 0 ≤ i + 1 ∧ (i + 1 + 1 ≤ μ 64 t ∨ (i + 1 = 0 ∧ μ 64 t = 0)); omega, by show (t, i, g0 t i) = _; rw [e, if_pos (by omega)], by show (-1 ≤ t ∧ t ≤ 2) ∧ (-1 ≤ i ∧ i < 120) ∧ (0 ≤ g0 t i ∧ g0 t i ≤ 41472) ∧ (t = -1 ↔ i = -1); omega⟩ (by show (μ 64 t - (i + 1)).toNat < (μ 64 t - i).toNat; omega))
    · refine tt_iconst X dX10_worst_23 ?_
      refine tt_iret X ⟨hr.1, hr.2.1⟩ (by decide) (by decide) dX10_worst_24 ?_
      refine ⟨rfl, ?_, μ 82, μ 83, by rw [ot_uc_id (k := 83) (by simp (disch := decide) only [ot_ucd]), ot_uc_self]⟩
      by_cases hq4 : 0 ≤ q ∧ q < 4
      · rw [if_pos hq4]
        split
        · rfl
        · rw [if_neg (by omega), if_neg (by omega), if_neg (by omega)]
      · rw [if_neg hq4]

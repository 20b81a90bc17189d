def lnD (n : Nat) (px py G : Int → Int) (i j : Nat) : Int := if i < n ∧ j < n then max ((px (G (i : Int)) - px (G (j : Int))).natAbs : Int) ((py (G (i : Int)) - py (G (j : Int))).natAbs : Int) else 0
/-- odd pins are pins -/
def gOd (n : Nat) (px py G : Int → Int) : Prop := n ≤ 12 ∧ ∀ i : Nat, i < n → (0 ≤ G (i : Int) ∧ G (i : Int) < 24) ∧ (0 ≤ px (G (i : Int)) ∧ px (G (i : Int)) ≤ 8) ∧ (0 ≤ py (G (i : Int)) ∧ py (G (i : Int)) ≤ 8)
theorem lnD_ok {n : Nat} {px py G : Int → Int} (h : gOd n px py G) (i j : Nat) : 0 ≤ lnD n px py G i j ∧ lnD n px py G i j ≤ 8 := by
  unfold lnD
  by_cases w : i < n ∧ j < n
  · rw [if_pos w]
    have h1 := h.2 i w.1
    have h2 := h.2 j w.2
    omega
  · rw [if_neg w]; decide
theorem gLn_rd {ln nl : Nat} {ext : ot_L} (h : gLn ln nl ext) (μ : ot_M) (F : Int → Int) (k : Nat) (h1 : k < 88) (h2 : k ≠ 44) : ot_uc μ ln F k = μ k := by
  have : k ≠ ln := by have := h.2.1; omega
  simp [ot_uc, this]
theorem p12 {n : Nat} (h : n ≤ 12) : 1 ≤ 2 ^ n ∧ 2 ^ n ≤ 4096 := ⟨Nat.two_pow_pos n, Nat.pow_le_pow_right (by decide) h⟩
theorem p12i {n i : Nat} (h : n ≤ 12) (hi : i < n) : 2 ^ i < 4096 := Nat.lt_of_lt_of_le (Nat.pow_lt_pow_right (by decide) hi) (p12 h).2
theorem xo2 {c i j n : Nat} (hn : n ≤ 12) (hc : c < 2 ^ n) (hi : i < n) (hj : j < n) : ot_xor (ot_xor (c : Int) (ot_shl 1 (i : Int))) (ot_shl 1 (j : Int)) = ((c ^^^ 2 ^ i ^^^ 2 ^ j : Nat) : Int) := by
  have h1 := p12 hn
  have h2 := p12i hn hi
  have h3 := p12i hn hj
  have h4 : c ^^^ 2 ^ i < 2 ^ n := Nat.xor_lt_two_pow hc (Nat.pow_lt_pow_right (by decide) hi)
  rw [bo_shl1 i (by omega), bo_shl1 j (by omega), bo_xor _ _ (by omega) (by omega), bo_xor _ _ (by omega) (by omega)]
set_option maxRecDepth 100000 in
set_option maxHeartbeats 1000000 in
theorem c_leastOf (l : Launch) (g : ot_G) (ln : Nat) (ext : ot_L) (μ : ot_M) (c0 : Nat) (n nl : Nat) (hn : μ 41 5 = (n : Int)) (hO : gOd n (μ 2) (μ 3) (μ 43)) (hln : gLn ln nl ext) (hnl : 2 ^ n ≤ nl) (hc : c0 < 2 ^ n) (h0 : c0 ≠ 0) (hev : cnt c0 n % 2 = 0) (hT : ∀ u, u < c0 → cnt u n % 2 = 0 → μ ln (u : Int) = (tT (lnD n (μ 2) (μ 3) (μ 43)) n) u)  : ot_C l g yX5_leastOf cX5_leastOf 6 (some .int) 2 0 0 [.inr 41, .inl (c0 : Int)] (LL ln ext) μ (ot_pi (fun r L2 μ2 => L2 = LL ln ext ∧ μ2 = μ ∧ r = (tT (lnD n (μ 2) (μ 3) (μ 43)) n) c0)) := by
  refine ot_enter (by decide) (Nat.le_of_ble_eq_true rfl) ?_
  intro p e s m args below meth c X hr
  have hn12 := hO.1
  have hp := p12 hn12
  have hn1 : 1 ≤ n := by
    rcases Nat.eq_zero_or_pos n with w | w
    · subst w; exact absurd (show c0 = 0 by omega) h0
    · exact w
  have hnl4 := hln.2.2.2
  have hDk := lnD_ok hO
  refine tt_iconst X dX5_leastOf_0 ?_
  refine tt_istore_n X dX5_leastOf_1 (by decide) ?_
  refine tt_loc [(0, _), (1, _), (2, _)] ⟨rfl, rfl, rfl, trivial⟩ ?_
  refine tt_loop (α := Nat) (fun i => n - i) (fun i => i + 1 ≤ n ∧ ∀ u, u < i → c0.testBit u = false) (fun i => μ) (fun i => [(0, .inr 41), (1, .inl (c0 : Int)), (2, .inl (i : Int))]) 0 ⟨by omega, fun u hu => absurd hu (Nat.not_lt_zero u)⟩ ?_
  intro i hI ih
  try dsimp only at hI ih ⊢
  replace hI : i + 1 ≤ n ∧ ∀ u, u < i → c0.testBit u = false := hI
  have hin := hI.1
  refine tt_iload_n X rfl dX5_leastOf_2 ?_
  refine tt_aload_n X rfl dX5_leastOf_3 ?_
  refine tt_geti X fX5_50 (k_41 _ _) (by decide) (Or.inl rfl) dX5_leastOf_4 ?_
  try simp (disch := decide) only [ot_rd, ot_rs, ot_rf, ot_ucd, ot_ucs]
  refine tt_iconst X dX5_leastOf_7 ?_
  refine tt_isub X dX5_leastOf_8 ?_
  refine tt_icmp_ge X 26 (by rw [hn]; omega) dX5_leastOf_9 (by decide) (fun b9 => ?_) (fun b9 => ?_)
  · refine tt_iconst X dX5_leastOf_26 ?_
    refine tt_istore_n X dX5_leastOf_27 (by decide) ?_
    refine tt_iload_n X rfl dX5_leastOf_28 ?_
    refine tt_iconst X dX5_leastOf_29 ?_
    refine tt_iadd X dX5_leastOf_30 ?_
    refine tt_istore X dX5_leastOf_31 (by decide) ?_
    have hbi : c0.testBit i = true := by
      first
        | (cases q : c0.testBit i
           · rw [q] at b17; simp at b17
           · rfl)
        | (cases q : c0.testBit i
           · exfalso
             apply h0
             refine Nat.eq_of_testBit_eq (fun u => ?_)
             rw [Nat.zero_testBit]
             rcases Nat.lt_trichotomy u i with w | w | w
             · exact hI.2 u w
             · rw [w]; exact q
             · exact tb_hi hc (by omega)
           · rfl)
    have hlow : lsN (fun u => c0.testBit u) n = i := lsN_eq hbi hI.2 n (by omega)
    refine tt_loc [(0, _), (1, _), (2, _), (3, _), (4, _)] ⟨rfl, rfl, rfl, rfl, rfl, trivial⟩ ?_
    refine tt_loop (α := Nat × Int) (fun ((j, v)) => n - j) (fun ((j, v)) => (i + 1 ≤ j ∧ j ≤ n) ∧ v = mnV (lnD n (μ 2) (μ 3) (μ 43)) (tT (lnD n (μ 2) (μ 3) (μ 43)) n) c0 i j ∧ (-1 ≤ v ∧ v ≤ 1000)) (fun ((j, v)) => μ) (fun ((j, v)) => [(0, .inr 41), (1, .inl (c0 : Int)), (2, .inl (i : Int)), (3, .inl v), (4, .inl (j : Int))]) (i + 1, -1) ⟨⟨Nat.le_refl _, hin⟩, (mnV_low (i + 1) (Nat.le_refl _)).symm, by show -1 ≤ (-1 : Int) ∧ (-1 : Int) ≤ 1000; decide⟩ ?_
    intro a hI2 ih2
    obtain ⟨j, v⟩ := a
    try dsimp only at hI2 ih2 ⊢
    replace hI2 : (i + 1 ≤ j ∧ j ≤ n) ∧ v = mnV (lnD n (μ 2) (μ 3) (μ 43)) (tT (lnD n (μ 2) (μ 3) (μ 43)) n) c0 i j ∧ (-1 ≤ v ∧ v ≤ 1000) := hI2
    have hj := hI2.1
    have hv := hI2.2.2
    refine tt_iload X rfl dX5_leastOf_33 ?_
    refine tt_aload_n X rfl dX5_leastOf_35 ?_
    refine tt_geti X fX5_50 (k_41 _ _) (by decide) (Or.inl rfl) dX5_leastOf_36 ?_
    try simp (disch := decide) only [ot_rd, ot_rs, ot_rf, ot_ucd, ot_ucs]
    refine tt_icmp_ge X 110 (by rw [hn]; omega) dX5_leastOf_39 (by decide) (fun b39 => ?_) (fun b39 => ?_)
    · refine tt_iload_n X rfl dX5_leastOf_110 ?_
      refine tt_iret X ⟨hr.1, hr.2.1⟩ (by decide) (by decide) dX5_leastOf_111 ?_
      have hje : j = n := by omega
      refine ⟨rfl, rfl, ?_⟩
      rw [hI2.2.1, hje, tT_eq h0, hlow]
    · refine tt_iload_n X rfl dX5_leastOf_42 ?_
      refine tt_iload X rfl dX5_leastOf_43 ?_
      refine tt_ishr X dX5_leastOf_45 ?_
      refine tt_iconst X dX5_leastOf_46 ?_
      refine tt_iand X dX5_leastOf_47 ?_
      refine tt_top (nt_test (m := c0) (i := j) (by omega) (by omega)) ?_
      refine tt_iconst X dX5_leastOf_48 ?_
      refine tt_icmp_ne X 104 (by split <;> omega) dX5_leastOf_49 (by decide) (fun b49 => ?_) (fun b49 => ?_)
      · refine tt_iinc X dX5_leastOf_104 rfl (by decide) ?_
        refine tt_goto X 33 dX5_leastOf_107 (by decide) ?_
        refine tt_loc [(0, _), (1, _), (2, _), (3, _), (4, _)] ⟨rfl, rfl, rfl, rfl, rfl, trivial⟩ ?_
        first
          | (have hb := tb_nil (m := c0) (i := j) (by omega)
             exact ih2 (j + 1, v) ⟨by show i + 1 ≤ j + 1 ∧ j + 1 ≤ n; omega, by show v = mnV (lnD n (μ 2) (μ 3) (μ 43)) (tT (lnD n (μ 2) (μ 3) (μ 43)) n) c0 i (j + 1); rw [mnV_n (by rw [hb]; simp), ← hI2.2.1], hI2.2.2⟩ (by show n - (j + 1) < n - j; omega))
          | (have hb := tb_one (m := c0) (i := j) (by omega)
             have hm := mnV_y (D := (lnD n (μ 2) (μ 3) (μ 43))) (T := (tT (lnD n (μ 2) (μ 3) (μ 43)) n)) (c := c0) (a := i) (j := j) ⟨by omega, hb⟩
             rw [← hI2.2.1, ← hxd] at hm
             first
               | (rw [if_pos (by omega)] at hm
                  exact ih2 (j + 1, x) ⟨by show i + 1 ≤ j + 1 ∧ j + 1 ≤ n; omega, hm.symm, by show -1 ≤ x ∧ x ≤ 1000; omega⟩ (by show n - (j + 1) < n - j; omega))
               | (rw [if_neg (by omega)] at hm
                  exact ih2 (j + 1, v) ⟨by show i + 1 ≤ j + 1 ∧ j + 1 ≤ n; omega, hm.symm, hI2.2.2⟩ (by show n - (j + 1) < n - j; omega)))
      · refine tt_aload_n X rfl dX5_leastOf_52 ?_
        refine tt_getr X fX5_21 (k_41 _ _) (by decide) ⟨nofun, nofun⟩ rfl dX5_leastOf_53 ?_
        refine tt_aload_n X rfl dX5_leastOf_56 ?_
        refine tt_getr X fX5_15 (k_41 _ _) (by decide) ⟨nofun, nofun⟩ rfl dX5_leastOf_57 ?_
        refine tt_iload_n X rfl dX5_leastOf_60 ?_
        have hGi := hO.2 i (by omega)
        have hGj := hO.2 j (by omega)
        have hb := tb_one (m := c0) (i := j) (by omega)
        refine tt_iaload X (k_43 _ _) (by first | omega | (simp (disch := decide) only [ot_rd, ot_rs, ot_rf, ot_ucd, ot_ucs]; omega)) dX5_leastOf_61 ?_
        try simp (disch := decide) only [ot_rd, ot_rs, ot_rf, ot_ucd, ot_ucs]
        refine tt_aload_n X rfl dX5_leastOf_62 ?_
        refine tt_getr X fX5_15 (k_41 _ _) (by decide) ⟨nofun, nofun⟩ rfl dX5_leastOf_63 ?_
        refine tt_iload X rfl dX5_leastOf_66 ?_
        refine tt_iaload X (k_43 _ _) (by first | omega | (simp (disch := decide) only [ot_rd, ot_rs, ot_rf, ot_ucd, ot_ucs]; omega)) dX5_leastOf_68 ?_
        try simp (disch := decide) only [ot_rd, ot_rs, ot_rf, ot_ucd, ot_ucs]
        refine tt_vi X rfl mX5_84 (c_lengthOf l g ln ext _ _ _ (by omega) (by omega) (by omega)) (k_1 _ _) ⟨_, rfl, rfl⟩ rfl rfl (Nat.le_of_ble_eq_true rfl) (by decide) (by decide) (by decide) dX5_leastOf_69 (fun z69 L69 μ69 hp => ?_)
        obtain ⟨rfl, e69, hz69⟩ := hp
        replace e69 := e69.symm
        subst e69
        try simp (disch := decide) only [ot_rd, ot_rs, ot_rf, ot_ucd, ot_ucs] at hz69
        refine tt_aload_n X rfl dX5_leastOf_72 ?_
        refine tt_getr X fX5_18 (k_41 _ _) (by decide) ⟨nofun, nofun⟩ rfl dX5_leastOf_73 ?_
        refine tt_iload_n X rfl dX5_leastOf_76 ?_
        refine tt_iconst X dX5_leastOf_77 ?_
        refine tt_iload_n X rfl dX5_leastOf_78 ?_
        refine tt_ishl X dX5_leastOf_79 ?_
        refine tt_ixor X dX5_leastOf_80 ?_
        refine tt_iconst X dX5_leastOf_81 ?_
        refine tt_iload X rfl dX5_leastOf_82 ?_
        refine tt_ishl X dX5_leastOf_84 ?_
        refine tt_ixor X dX5_leastOf_85 ?_
        refine tt_top (xo2 hn12 hc (by omega) (by omega)) ?_
        have h2l := two_lt (by omega) hbi hb
        have h2d := cnt_two_del (n := n) (by omega) (by omega) hbi hb
        have hxl := lt_del hc (show i < n by omega) (show j < n by omega)
        refine tt_iaload X hln.1 (by omega) dX5_leastOf_86 ?_
        try simp (disch := decide) only [ot_rd, ot_rs, ot_rf, ot_ucd, ot_ucs]
        refine tt_top (hT _ h2l (by omega)) ?_
        refine tt_iadd X dX5_leastOf_87 ?_
        obtain ⟨x, hxd⟩ : ∃ x, x = (lnD n (μ 2) (μ 3) (μ 43)) i j + (tT (lnD n (μ 2) (μ 3) (μ 43)) n) (c0 ^^^ 2 ^ i ^^^ 2 ^ j) := ⟨_, rfl⟩
        have hx1 := tT_ok hDk _ _ (Nat.lt_succ_self _) hxl (by omega)
        have hx2 := hDk i j
        have hx3 := cnt_le (c0 ^^^ 2 ^ i ^^^ 2 ^ j) n
        have hx4 : 0 ≤ x ∧ x ≤ 1000 := by omega
        refine tt_top (y := x) (by rw [hz69, hxd]; unfold lnD; rw [if_pos (show i < n ∧ j < n by omega)]) ?_
        refine tt_istore X dX5_leastOf_88 (by decide) ?_
        refine tt_iload_n X rfl dX5_leastOf_90 ?_
        refine tt_iconst X dX5_leastOf_91 ?_
        refine tt_icmp_eq X 101 (by first | omega | (simp (disch := decide) only [ot_rd, ot_rs, ot_rf, ot_ucd, ot_ucs]; omega)) dX5_leastOf_92 (by decide) (fun b92 => ?_) (fun b92 => ?_)
        · refine tt_iload X rfl dX5_leastOf_101 ?_
          refine tt_istore_n X dX5_leastOf_103 (by decide) ?_
          refine tt_iinc X dX5_leastOf_104 rfl (by decide) ?_
          refine tt_goto X 33 dX5_leastOf_107 (by decide) ?_
          refine tt_loc [(0, _), (1, _), (2, _), (3, _), (4, _)] ⟨rfl, rfl, rfl, rfl, rfl, trivial⟩ ?_
          first
            | (have hb := tb_nil (m := c0) (i := j) (by omega)
               exact ih2 (j + 1, v) ⟨by show i + 1 ≤ j + 1 ∧ j + 1 ≤ n; omega, by show v = mnV (lnD n (μ 2) (μ 3) (μ 43)) (tT (lnD n (μ 2) (μ 3) (μ 43)) n) c0 i (j + 1); rw [mnV_n (by rw [hb]; simp), ← hI2.2.1], hI2.2.2⟩ (by show n - (j + 1) < n - j; omega))
            | (have hb := tb_one (m := c0) (i := j) (by omega)
               have hm := mnV_y (D := (lnD n (μ 2) (μ 3) (μ 43))) (T := (tT (lnD n (μ 2) (μ 3) (μ 43)) n)) (c := c0) (a := i) (j := j) ⟨by omega, hb⟩
               rw [← hI2.2.1, ← hxd] at hm
               first
                 | (rw [if_pos (by omega)] at hm
                    exact ih2 (j + 1, x) ⟨by show i + 1 ≤ j + 1 ∧ j + 1 ≤ n; omega, hm.symm, by show -1 ≤ x ∧ x ≤ 1000; omega⟩ (by show n - (j + 1) < n - j; omega))
                 | (rw [if_neg (by omega)] at hm
                    exact ih2 (j + 1, v) ⟨by show i + 1 ≤ j + 1 ∧ j + 1 ≤ n; omega, hm.symm, hI2.2.2⟩ (by show n - (j + 1) < n - j; omega)))
        · refine tt_iload X rfl dX5_leastOf_95 ?_
          refine tt_iload_n X rfl dX5_leastOf_97 ?_
          refine tt_icmp_ge X 104 (by first | omega | (simp (disch := decide) only [ot_rd, ot_rs, ot_rf, ot_ucd, ot_ucs]; omega)) dX5_leastOf_98 (by decide) (fun b98 => ?_) (fun b98 => ?_)
          · refine tt_iinc X dX5_leastOf_104 rfl (by decide) ?_
            refine tt_goto X 33 dX5_leastOf_107 (by decide) ?_
            refine tt_loc [(0, _), (1, _), (2, _), (3, _), (4, _)] ⟨rfl, rfl, rfl, rfl, rfl, trivial⟩ ?_
            first
              | (have hb := tb_nil (m := c0) (i := j) (by omega)
                 exact ih2 (j + 1, v) ⟨by show i + 1 ≤ j + 1 ∧ j + 1 ≤ n; omega, by show v = mnV (lnD n (μ 2) (μ 3) (μ 43)) (tT (lnD n (μ 2) (μ 3) (μ 43)) n) c0 i (j + 1); rw [mnV_n (by rw [hb]; simp), ← hI2.2.1], hI2.2.2⟩ (by show n - (j + 1) < n - j; omega))
              | (have hb := tb_one (m := c0) (i := j) (by omega)
                 have hm := mnV_y (D := (lnD n (μ 2) (μ 3) (μ 43))) (T := (tT (lnD n (μ 2) (μ 3) (μ 43)) n)) (c := c0) (a := i) (j := j) ⟨by omega, hb⟩
                 rw [← hI2.2.1, ← hxd] at hm
                 first
                   | (rw [if_pos (by omega)] at hm
                      exact ih2 (j + 1, x) ⟨by show i + 1 ≤ j + 1 ∧ j + 1 ≤ n; omega, hm.symm, by show -1 ≤ x ∧ x ≤ 1000; omega⟩ (by show n - (j + 1) < n - j; omega))
                   | (rw [if_neg (by omega)] at hm
                      exact ih2 (j + 1, v) ⟨by show i + 1 ≤ j + 1 ∧ j + 1 ≤ n; omega, hm.symm, hI2.2.2⟩ (by show n - (j + 1) < n - j; omega)))
          · refine tt_iload X rfl dX5_leastOf_101 ?_
            refine tt_istore_n X dX5_leastOf_103 (by decide) ?_
            refine tt_iinc X dX5_leastOf_104 rfl (by decide) ?_
            refine tt_goto X 33 dX5_leastOf_107 (by decide) ?_
            refine tt_loc [(0, _), (1, _), (2, _), (3, _), (4, _)] ⟨rfl, rfl, rfl, rfl, rfl, trivial⟩ ?_
            first
              | (have hb := tb_nil (m := c0) (i := j) (by omega)
                 exact ih2 (j + 1, v) ⟨by show i + 1 ≤ j + 1 ∧ j + 1 ≤ n; omega, by show v = mnV (lnD n (μ 2) (μ 3) (μ 43)) (tT (lnD n (μ 2) (μ 3) (μ 43)) n) c0 i (j + 1); rw [mnV_n (by rw [hb]; simp), ← hI2.2.1], hI2.2.2⟩ (by show n - (j + 1) < n - j; omega))
              | (have hb := tb_one (m := c0) (i := j) (by omega)
                 have hm := mnV_y (D := (lnD n (μ 2) (μ 3) (μ 43))) (T := (tT (lnD n (μ 2) (μ 3) (μ 43)) n)) (c := c0) (a := i) (j := j) ⟨by omega, hb⟩
                 rw [← hI2.2.1, ← hxd] at hm
                 first
                   | (rw [if_pos (by omega)] at hm
                      exact ih2 (j + 1, x) ⟨by show i + 1 ≤ j + 1 ∧ j + 1 ≤ n; omega, hm.symm, by show -1 ≤ x ∧ x ≤ 1000; omega⟩ (by show n - (j + 1) < n - j; omega))
                   | (rw [if_neg (by omega)] at hm
                      exact ih2 (j + 1, v) ⟨by show i + 1 ≤ j + 1 ∧ j + 1 ≤ n; omega, hm.symm, hI2.2.2⟩ (by show n - (j + 1) < n - j; omega)))
  · refine tt_iload_n X rfl dX5_leastOf_12 ?_
    refine tt_iload_n X rfl dX5_leastOf_13 ?_
    refine tt_ishr X dX5_leastOf_14 ?_
    refine tt_iconst X dX5_leastOf_15 ?_
    refine tt_iand X dX5_leastOf_16 ?_
    refine tt_top (nt_test (m := c0) (i := i) (by omega) (by omega)) ?_
    refine tt_if_ne X 26 (by split <;> omega) dX5_leastOf_17 (by decide) (fun b17 => ?_) (fun b17 => ?_)
    · refine tt_iconst X dX5_leastOf_26 ?_
      refine tt_istore_n X dX5_leastOf_27 (by decide) ?_
      refine tt_iload_n X rfl dX5_leastOf_28 ?_
      refine tt_iconst X dX5_leastOf_29 ?_
      refine tt_iadd X dX5_leastOf_30 ?_
      refine tt_istore X dX5_leastOf_31 (by decide) ?_
      have hbi : c0.testBit i = true := by
        first
          | (cases q : c0.testBit i
             · rw [q] at b17; simp at b17
             · rfl)
          | (cases q : c0.testBit i
             · exfalso
               apply h0
               refine Nat.eq_of_testBit_eq (fun u => ?_)
               rw [Nat.zero_testBit]
               rcases Nat.lt_trichotomy u i with w | w | w
               · exact hI.2 u w
               · rw [w]; exact q
               · exact tb_hi hc (by omega)
             · rfl)
      have hlow : lsN (fun u => c0.testBit u) n = i := lsN_eq hbi hI.2 n (by omega)
      refine tt_loc [(0, _), (1, _), (2, _), (3, _), (4, _)] ⟨rfl, rfl, rfl, rfl, rfl, trivial⟩ ?_
      refine tt_loop (α := Nat × Int) (fun ((j, v)) => n - j) (fun ((j, v)) => (i + 1 ≤ j ∧ j ≤ n) ∧ v = mnV (lnD n (μ 2) (μ 3) (μ 43)) (tT (lnD n (μ 2) (μ 3) (μ 43)) n) c0 i j ∧ (-1 ≤ v ∧ v ≤ 1000)) (fun ((j, v)) => μ) (fun ((j, v)) => [(0, .inr 41), (1, .inl (c0 : Int)), (2, .inl (i : Int)), (3, .inl v), (4, .inl (j : Int))]) (i + 1, -1) ⟨⟨Nat.le_refl _, hin⟩, (mnV_low (i + 1) (Nat.le_refl _)).symm, by show -1 ≤ (-1 : Int) ∧ (-1 : Int) ≤ 1000; decide⟩ ?_
      intro a hI2 ih2
      obtain ⟨j, v⟩ := a
      try dsimp only at hI2 ih2 ⊢
      replace hI2 : (i + 1 ≤ j ∧ j ≤ n) ∧ v = mnV (lnD n (μ 2) (μ 3) (μ 43)) (tT (lnD n (μ 2) (μ 3) (μ 43)) n) c0 i j ∧ (-1 ≤ v ∧ v ≤ 1000) := hI2
      have hj := hI2.1
      have hv := hI2.2.2
      refine tt_iload X rfl dX5_leastOf_33 ?_
      refine tt_aload_n X rfl dX5_leastOf_35 ?_
      refine tt_geti X fX5_50 (k_41 _ _) (by decide) (Or.inl rfl) dX5_leastOf_36 ?_
      try simp (disch := decide) only [ot_rd, ot_rs, ot_rf, ot_ucd, ot_ucs]
      refine tt_icmp_ge X 110 (by rw [hn]; omega) dX5_leastOf_39 (by decide) (fun b39 => ?_) (fun b39 => ?_)
      · refine tt_iload_n X rfl dX5_leastOf_110 ?_
        refine tt_iret X ⟨hr.1, hr.2.1⟩ (by decide) (by decide) dX5_leastOf_111 ?_
        have hje : j = n := by omega
        refine ⟨rfl, rfl, ?_⟩
        rw [hI2.2.1, hje, tT_eq h0, hlow]
      · refine tt_iload_n X rfl dX5_leastOf_42 ?_
        refine tt_iload X rfl dX5_leastOf_43 ?_
        refine tt_ishr X dX5_leastOf_45 ?_
        refine tt_iconst X dX5_leastOf_46 ?_
        refine tt_iand X dX5_leastOf_47 ?_
        refine tt_top (nt_test (m := c0) (i := j) (by omega) (by omega)) ?_
        refine tt_iconst X dX5_leastOf_48 ?_
        refine tt_icmp_ne X 104 (by split <;> omega) dX5_leastOf_49 (by decide) (fun b49 => ?_) (fun b49 => ?_)
        · refine tt_iinc X dX5_leastOf_104 rfl (by decide) ?_
          refine tt_goto X 33 dX5_leastOf_107 (by decide) ?_
          refine tt_loc [(0, _), (1, _), (2, _), (3, _), (4, _)] ⟨rfl, rfl, rfl, rfl, rfl, trivial⟩ ?_
          first
            | (have hb := tb_nil (m := c0) (i := j) (by omega)
               exact ih2 (j + 1, v) ⟨by show i + 1 ≤ j + 1 ∧ j + 1 ≤ n; omega, by show v = mnV (lnD n (μ 2) (μ 3) (μ 43)) (tT (lnD n (μ 2) (μ 3) (μ 43)) n) c0 i (j + 1); rw [mnV_n (by rw [hb]; simp), ← hI2.2.1], hI2.2.2⟩ (by show n - (j + 1) < n - j; omega))
            | (have hb := tb_one (m := c0) (i := j) (by omega)
               have hm := mnV_y (D := (lnD n (μ 2) (μ 3) (μ 43))) (T := (tT (lnD n (μ 2) (μ 3) (μ 43)) n)) (c := c0) (a := i) (j := j) ⟨by omega, hb⟩
               rw [← hI2.2.1, ← hxd] at hm
               first
                 | (rw [if_pos (by omega)] at hm
                    exact ih2 (j + 1, x) ⟨by show i + 1 ≤ j + 1 ∧ j + 1 ≤ n; omega, hm.symm, by show -1 ≤ x ∧ x ≤ 1000; omega⟩ (by show n - (j + 1) < n - j; omega))
                 | (rw [if_neg (by omega)] at hm
                    exact ih2 (j + 1, v) ⟨by show i + 1 ≤ j + 1 ∧ j + 1 ≤ n; omega, hm.symm, hI2.2.2⟩ (by show n - (j + 1) < n - j; omega)))
        · refine tt_aload_n X rfl dX5_leastOf_52 ?_
          refine tt_getr X fX5_21 (k_41 _ _) (by decide) ⟨nofun, nofun⟩ rfl dX5_leastOf_53 ?_
          refine tt_aload_n X rfl dX5_leastOf_56 ?_
          refine tt_getr X fX5_15 (k_41 _ _) (by decide) ⟨nofun, nofun⟩ rfl dX5_leastOf_57 ?_
          refine tt_iload_n X rfl dX5_leastOf_60 ?_
          have hGi := hO.2 i (by omega)
          have hGj := hO.2 j (by omega)
          have hb := tb_one (m := c0) (i := j) (by omega)
          refine tt_iaload X (k_43 _ _) (by first | omega | (simp (disch := decide) only [ot_rd, ot_rs, ot_rf, ot_ucd, ot_ucs]; omega)) dX5_leastOf_61 ?_
          try simp (disch := decide) only [ot_rd, ot_rs, ot_rf, ot_ucd, ot_ucs]
          refine tt_aload_n X rfl dX5_leastOf_62 ?_
          refine tt_getr X fX5_15 (k_41 _ _) (by decide) ⟨nofun, nofun⟩ rfl dX5_leastOf_63 ?_
          refine tt_iload X rfl dX5_leastOf_66 ?_
          refine tt_iaload X (k_43 _ _) (by first | omega | (simp (disch := decide) only [ot_rd, ot_rs, ot_rf, ot_ucd, ot_ucs]; omega)) dX5_leastOf_68 ?_
          try simp (disch := decide) only [ot_rd, ot_rs, ot_rf, ot_ucd, ot_ucs]
          refine tt_vi X rfl mX5_84 (c_lengthOf l g ln ext _ _ _ (by omega) (by omega) (by omega)) (k_1 _ _) ⟨_, rfl, rfl⟩ rfl rfl (Nat.le_of_ble_eq_true rfl) (by decide) (by decide) (by decide) dX5_leastOf_69 (fun z69 L69 μ69 hp => ?_)
          obtain ⟨rfl, e69, hz69⟩ := hp
          replace e69 := e69.symm
          subst e69
          try simp (disch := decide) only [ot_rd, ot_rs, ot_rf, ot_ucd, ot_ucs] at hz69
          refine tt_aload_n X rfl dX5_leastOf_72 ?_
          refine tt_getr X fX5_18 (k_41 _ _) (by decide) ⟨nofun, nofun⟩ rfl dX5_leastOf_73 ?_
          refine tt_iload_n X rfl dX5_leastOf_76 ?_
          refine tt_iconst X dX5_leastOf_77 ?_
          refine tt_iload_n X rfl dX5_leastOf_78 ?_
          refine tt_ishl X dX5_leastOf_79 ?_
          refine tt_ixor X dX5_leastOf_80 ?_
          refine tt_iconst X dX5_leastOf_81 ?_
          refine tt_iload X rfl dX5_leastOf_82 ?_
          refine tt_ishl X dX5_leastOf_84 ?_
          refine tt_ixor X dX5_leastOf_85 ?_
          refine tt_top (xo2 hn12 hc (by omega) (by omega)) ?_
          have h2l := two_lt (by omega) hbi hb
          have h2d := cnt_two_del (n := n) (by omega) (by omega) hbi hb
          have hxl := lt_del hc (show i < n by omega) (show j < n by omega)
          refine tt_iaload X hln.1 (by omega) dX5_leastOf_86 ?_
          try simp (disch := decide) only [ot_rd, ot_rs, ot_rf, ot_ucd, ot_ucs]
          refine tt_top (hT _ h2l (by omega)) ?_
          refine tt_iadd X dX5_leastOf_87 ?_
          obtain ⟨x, hxd⟩ : ∃ x, x = (lnD n (μ 2) (μ 3) (μ 43)) i j + (tT (lnD n (μ 2) (μ 3) (μ 43)) n) (c0 ^^^ 2 ^ i ^^^ 2 ^ j) := ⟨_, rfl⟩
          have hx1 := tT_ok hDk _ _ (Nat.lt_succ_self _) hxl (by omega)
          have hx2 := hDk i j
          have hx3 := cnt_le (c0 ^^^ 2 ^ i ^^^ 2 ^ j) n
          have hx4 : 0 ≤ x ∧ x ≤ 1000 := by omega
          refine tt_top (y := x) (by rw [hz69, hxd]; unfold lnD; rw [if_pos (show i < n ∧ j < n by omega)]) ?_
          refine tt_istore X dX5_leastOf_88 (by decide) ?_
          refine tt_iload_n X rfl dX5_leastOf_90 ?_
          refine tt_iconst X dX5_leastOf_91 ?_
          refine tt_icmp_eq X 101 (by first | omega | (simp (disch := decide) only [ot_rd, ot_rs, ot_rf, ot_ucd, ot_ucs]; omega)) dX5_leastOf_92 (by decide) (fun b92 => ?_) (fun b92 => ?_)
          · refine tt_iload X rfl dX5_leastOf_101 ?_
            refine tt_istore_n X dX5_leastOf_103 (by decide) ?_
            refine tt_iinc X dX5_leastOf_104 rfl (by decide) ?_
            refine tt_goto X 33 dX5_leastOf_107 (by decide) ?_
            refine tt_loc [(0, _), (1, _), (2, _), (3, _), (4, _)] ⟨rfl, rfl, rfl, rfl, rfl, trivial⟩ ?_
            first
              | (have hb := tb_nil (m := c0) (i := j) (by omega)
                 exact ih2 (j + 1, v) ⟨by show i + 1 ≤ j + 1 ∧ j + 1 ≤ n; omega, by show v = mnV (lnD n (μ 2) (μ 3) (μ 43)) (tT (lnD n (μ 2) (μ 3) (μ 43)) n) c0 i (j + 1); rw [mnV_n (by rw [hb]; simp), ← hI2.2.1], hI2.2.2⟩ (by show n - (j + 1) < n - j; omega))
              | (have hb := tb_one (m := c0) (i := j) (by omega)
                 have hm := mnV_y (D := (lnD n (μ 2) (μ 3) (μ 43))) (T := (tT (lnD n (μ 2) (μ 3) (μ 43)) n)) (c := c0) (a := i) (j := j) ⟨by omega, hb⟩
                 rw [← hI2.2.1, ← hxd] at hm
                 first
                   | (rw [if_pos (by omega)] at hm
                      exact ih2 (j + 1, x) ⟨by show i + 1 ≤ j + 1 ∧ j + 1 ≤ n; omega, hm.symm, by show -1 ≤ x ∧ x ≤ 1000; omega⟩ (by show n - (j + 1) < n - j; omega))
                   | (rw [if_neg (by omega)] at hm
                      exact ih2 (j + 1, v) ⟨by show i + 1 ≤ j + 1 ∧ j + 1 ≤ n; omega, hm.symm, hI2.2.2⟩ (by show n - (j + 1) < n - j; omega)))
          · refine tt_iload X rfl dX5_leastOf_95 ?_
            refine tt_iload_n X rfl dX5_leastOf_97 ?_
            refine tt_icmp_ge X 104 (by first | omega | (simp (disch := decide) only [ot_rd, ot_rs, ot_rf, ot_ucd, ot_ucs]; omega)) dX5_leastOf_98 (by decide) (fun b98 => ?_) (fun b98 => ?_)
            · refine tt_iinc X dX5_leastOf_104 rfl (by decide) ?_
              refine tt_goto X 33 dX5_leastOf_107 (by decide) ?_
              refine tt_loc [(0, _), (1, _), (2, _), (3, _), (4, _)] ⟨rfl, rfl, rfl, rfl, rfl, trivial⟩ ?_
              first
                | (have hb := tb_nil (m := c0) (i := j) (by omega)
                   exact ih2 (j + 1, v) ⟨by show i + 1 ≤ j + 1 ∧ j + 1 ≤ n; omega, by show v = mnV (lnD n (μ 2) (μ 3) (μ 43)) (tT (lnD n (μ 2) (μ 3) (μ 43)) n) c0 i (j + 1); rw [mnV_n (by rw [hb]; simp), ← hI2.2.1], hI2.2.2⟩ (by show n - (j + 1) < n - j; omega))
                | (have hb := tb_one (m := c0) (i := j) (by omega)
                   have hm := mnV_y (D := (lnD n (μ 2) (μ 3) (μ 43))) (T := (tT (lnD n (μ 2) (μ 3) (μ 43)) n)) (c := c0) (a := i) (j := j) ⟨by omega, hb⟩
                   rw [← hI2.2.1, ← hxd] at hm
                   first
                     | (rw [if_pos (by omega)] at hm
                        exact ih2 (j + 1, x) ⟨by show i + 1 ≤ j + 1 ∧ j + 1 ≤ n; omega, hm.symm, by show -1 ≤ x ∧ x ≤ 1000; omega⟩ (by show n - (j + 1) < n - j; omega))
                     | (rw [if_neg (by omega)] at hm
                        exact ih2 (j + 1, v) ⟨by show i + 1 ≤ j + 1 ∧ j + 1 ≤ n; omega, hm.symm, hI2.2.2⟩ (by show n - (j + 1) < n - j; omega)))
            · refine tt_iload X rfl dX5_leastOf_101 ?_
              refine tt_istore_n X dX5_leastOf_103 (by decide) ?_
              refine tt_iinc X dX5_leastOf_104 rfl (by decide) ?_
              refine tt_goto X 33 dX5_leastOf_107 (by decide) ?_
              refine tt_loc [(0, _), (1, _), (2, _), (3, _), (4, _)] ⟨rfl, rfl, rfl, rfl, rfl, trivial⟩ ?_
              first
                | (have hb := tb_nil (m := c0) (i := j) (by omega)
                   exact ih2 (j + 1, v) ⟨by show i + 1 ≤ j + 1 ∧ j + 1 ≤ n; omega, by show v = mnV (lnD n (μ 2) (μ 3) (μ 43)) (tT (lnD n (μ 2) (μ 3) (μ 43)) n) c0 i (j + 1); rw [mnV_n (by rw [hb]; simp), ← hI2.2.1], hI2.2.2⟩ (by show n - (j + 1) < n - j; omega))
                | (have hb := tb_one (m := c0) (i := j) (by omega)
                   have hm := mnV_y (D := (lnD n (μ 2) (μ 3) (μ 43))) (T := (tT (lnD n (μ 2) (μ 3) (μ 43)) n)) (c := c0) (a := i) (j := j) ⟨by omega, hb⟩
                   rw [← hI2.2.1, ← hxd] at hm
                   first
                     | (rw [if_pos (by omega)] at hm
                        exact ih2 (j + 1, x) ⟨by show i + 1 ≤ j + 1 ∧ j + 1 ≤ n; omega, hm.symm, by show -1 ≤ x ∧ x ≤ 1000; omega⟩ (by show n - (j + 1) < n - j; omega))
                     | (rw [if_neg (by omega)] at hm
                        exact ih2 (j + 1, v) ⟨by show i + 1 ≤ j + 1 ∧ j + 1 ≤ n; omega, hm.symm, hI2.2.2⟩ (by show n - (j + 1) < n - j; omega)))
    · refine tt_iinc X dX5_leastOf_20 rfl (by decide) ?_
      refine tt_goto X 2 dX5_leastOf_23 (by decide) ?_
      refine tt_loc [(0, _), (1, _), (2, _)] ⟨rfl, rfl, rfl, trivial⟩ ?_
      refine ih (i + 1) ⟨by omega, fun u hu => ?_⟩ (by omega)
      by_cases w : u = i
      · subst w
        cases q : c0.testBit u
        · rfl
        · rw [q] at b17; simp at b17
      · exact hI.2 u (by omega)
set_option maxRecDepth 100000 in
set_option maxHeartbeats 1000000 in
theorem c_fillLeastO (l : Launch) (g : ot_G) (ln : Nat) (ext : ot_L) (μ : ot_M) (n nl : Nat) (hn : μ 41 5 = (n : Int)) (hO : gOd n (μ 2) (μ 3) (μ 43)) (hln : gLn ln nl ext) (hnl : 2 ^ n ≤ nl)  : ot_C l g yX5_fillLeast cX5_fillLeast 3 none 3 1 4096 [.inr 41] (LL ln ext) μ (ot_pv (fun L2 μ2 => ∃ (ln2 : Nat) (ext2 : ot_L) (nl2 : Nat) (F : Int → Int), gLn ln2 nl2 ext2 ∧ 2 ^ n ≤ nl2 ∧ L2 = LL ln2 ext2 ∧ (∀ u, u < 2 ^ n → cnt u n % 2 = 0 → F (u : Int) = (tT (lnD n (μ 2) (μ 3) (μ 43)) n) u) ∧ μ2 = ot_uc μ ln2 F)) := by
  refine ot_enter (by decide) (Nat.le_of_ble_eq_true rfl) ?_
  intro p e s m args below meth c X hr
  have hn12 := hO.1
  have hp := p12 hn12
  have hnl4 := hln.2.2
  have hrd : ∀ F k, k < 88 → k ≠ 44 → ot_uc μ ln F k = μ k := fun F k h1 h2 => gLn_rd hln μ F k h1 h2
  refine tt_iconst X dX5_fillLeast_0 ?_
  refine tt_aload_n X rfl dX5_fillLeast_1 ?_
  refine tt_geti X fX5_50 (k_41 _ _) (by decide) (Or.inl rfl) dX5_fillLeast_2 ?_
  rw [hn]
  refine tt_ishl X dX5_fillLeast_5 ?_
  refine tt_top (bo_shl1 n (by omega)) ?_
  refine tt_istore_n X dX5_fillLeast_6 (by decide) ?_
  refine tt_aload_n X rfl dX5_fillLeast_7 ?_
  refine tt_getr X fX5_18 (k_41 _ _) (by decide) ⟨nofun, nofun⟩ rfl dX5_fillLeast_8 ?_
  refine tt_alen X hln.1 (by decide) dX5_fillLeast_11 ?_
  
  refine tt_iload_n X rfl dX5_fillLeast_12 ?_
  refine tt_icmp_ge X 23 (by omega) dX5_fillLeast_13 (by decide) (fun b13 => ?_) (fun b13 => ?_)
  · refine tt_aload_n X rfl dX5_fillLeast_23 ?_
    refine tt_getr X fX5_18 (k_41 _ _) (by decide) ⟨nofun, nofun⟩ rfl dX5_fillLeast_24 ?_
    refine tt_iconst X dX5_fillLeast_27 ?_
    refine tt_iconst X dX5_fillLeast_28 ?_
    refine tt_iastore X hln.1 (by have := hln.2.2; omega) dX5_fillLeast_29 ?_
    refine tt_iconst X dX5_fillLeast_30 ?_
    refine tt_istore_n X dX5_fillLeast_31 (by decide) ?_
    refine tt_mem (μ' := ot_uc μ ln (up1 (μ ln) 0 0)) (by funext q c1; by_cases w1 : q = ln <;> simp [ot_up, ot_uc, up1, w1]) ?_
    refine tt_loc [(0, _), (1, _), (2, _)] ⟨rfl, rfl, rfl, trivial⟩ ?_
    refine tt_loop (α := Nat × (Int → Int)) (fun ((k, F)) => 2 ^ n - k) (fun ((k, F)) => (1 ≤ k ∧ k ≤ 2 ^ n) ∧ ∀ u, u < k → cnt u n % 2 = 0 → F (u : Int) = (tT (lnD n (μ 2) (μ 3) (μ 43)) n) u) (fun ((k, F)) => ot_uc μ ln F) (fun ((k, F)) => [(0, .inr 41), (1, .inl ((2 ^ n : Nat) : Int)), (2, .inl (k : Int))]) (1, up1 (μ ln) 0 0) ⟨⟨Nat.le_refl _, hp.1⟩, fun u hu _ => by have hu0 : u = 0 := (by omega); subst hu0; exact up1_s⟩ ?_
    intro a hI ih
    obtain ⟨k, F⟩ := a
    try dsimp only at hI ih ⊢
    replace hI : (1 ≤ k ∧ k ≤ 2 ^ n) ∧ ∀ u, u < k → cnt u n % 2 = 0 → F (u : Int) = (tT (lnD n (μ 2) (μ 3) (μ 43)) n) u := hI
    have hk := hI.1
    refine tt_iload_n X rfl dX5_fillLeast_32 ?_
    refine tt_iload_n X rfl dX5_fillLeast_33 ?_
    refine tt_icmp_ge X 63 (by first | omega | (simp (disch := decide) only [ot_rd, ot_rs, ot_rf, ot_ucd, ot_ucs, hrd]; omega)) dX5_fillLeast_34 (by decide) (fun b34 => ?_) (fun b34 => ?_)
    · refine tt_vret X ⟨hr.1, hr.2.1⟩ (by decide) (by decide) dX5_fillLeast_63 ?_
      have hke : k = 2 ^ n := by omega
      subst hke
      exact ⟨ln, ext, nl, F, hln, hnl, rfl, hI.2, rfl⟩
    · refine tt_iload_n X rfl dX5_fillLeast_37 ?_
      
      refine tt_si X rfl mX5_69 (c_bitCount l g ln ext _ k (by omega)) rfl rfl (Nat.le_of_ble_eq_true rfl) (by decide) (by decide) (by decide) dX5_fillLeast_38 (fun z38 L38 μ38 hp => ?_)
      obtain ⟨rfl, e38, hz38⟩ := hp
      replace e38 := e38.symm
      subst e38
      try simp (disch := decide) only [ot_rd, ot_rs, ot_rf, ot_ucd, ot_ucs, hrd] at hz38
      refine tt_iconst X dX5_fillLeast_41 ?_
      refine tt_iand X dX5_fillLeast_42 ?_
      refine tt_top (y := ((cnt k 24 % 2 : Nat) : Int)) (by rw [hz38, show (1 : Int) = ((1 : Nat) : Int) from rfl, bo_and _ _ (by have := cnt_le k 24; omega), Nat.and_one_is_mod]) ?_
      have hcm := cnt_more (m := k) (k := n) (by omega) 24 (by omega)
      refine tt_if_ne X 57 (by first | omega | (simp (disch := decide) only [ot_rd, ot_rs, ot_rf, ot_ucd, ot_ucs, hrd, hrd]; omega)) dX5_fillLeast_43 (by decide) (fun b43 => ?_) (fun b43 => ?_)
      · refine tt_iinc X dX5_fillLeast_57 rfl (by decide) ?_
        refine tt_goto X 32 dX5_fillLeast_60 (by decide) ?_
        refine tt_loc [(0, _), (1, _), (2, _)] ⟨rfl, rfl, rfl, trivial⟩ ?_
        first
          | exact ih (k + 1, F) ⟨by show 1 ≤ k + 1 ∧ k + 1 ≤ 2 ^ n; omega, fun u hu he => by
              by_cases w : u = k
              · subst w; exfalso; omega
              · exact hI.2 u (by omega) he⟩ (by show 2 ^ n - (k + 1) < 2 ^ n - k; omega)
          | (refine tt_mem (μ' := ot_uc μ ln (up1 F (k : Int) z53)) (by funext q c1; by_cases w1 : q = ln <;> simp [ot_up, ot_uc, up1, w1]) ?_
             exact ih (k + 1, up1 F (k : Int) z53) ⟨by show 1 ≤ k + 1 ∧ k + 1 ≤ 2 ^ n; omega, fun u hu he => by
              by_cases w : u = k
              · subst w; show up1 F (u : Int) z53 (u : Int) = _; rw [up1_s]; exact hz53
              · show up1 F (k : Int) z53 (u : Int) = _; rw [up1_n (by omega)]; exact hI.2 u (by omega) he⟩ (by show 2 ^ n - (k + 1) < 2 ^ n - k; omega))
      · refine tt_aload_n X rfl dX5_fillLeast_46 ?_
        refine tt_getr X fX5_18 (k_41 _ _) (by decide) ⟨nofun, nofun⟩ rfl dX5_fillLeast_47 ?_
        refine tt_iload_n X rfl dX5_fillLeast_50 ?_
        refine tt_aload_n X rfl dX5_fillLeast_51 ?_
        refine tt_iload_n X rfl dX5_fillLeast_52 ?_
        refine tt_vi X rfl mX5_81 (c_leastOf l g ln ext _ k n nl (by simp (disch := decide) only [hrd]; exact hn) (by simp (disch := decide) only [hrd]; exact hO) hln (by omega) (by omega) (by omega) (by omega) (by simp (disch := decide) only [hrd, ot_ucs]; exact hI.2)) (k_41 _ _) ⟨_, rfl, rfl⟩ rfl rfl (Nat.le_of_ble_eq_true rfl) (by decide) (by decide) (by decide) dX5_fillLeast_53 (fun z53 L53 μ53 hp => ?_)
        obtain ⟨rfl, e53, hz53⟩ := hp
        replace e53 := e53.symm
        subst e53
        simp (disch := decide) only [hrd] at hz53
        try simp (disch := decide) only [ot_rd, ot_rs, ot_rf, ot_ucd, ot_ucs, hrd, hrd] at hz53
        refine tt_iastore X hln.1 (by have := hln.2.2; omega) dX5_fillLeast_56 ?_
        refine tt_iinc X dX5_fillLeast_57 rfl (by decide) ?_
        refine tt_goto X 32 dX5_fillLeast_60 (by decide) ?_
        refine tt_loc [(0, _), (1, _), (2, _)] ⟨rfl, rfl, rfl, trivial⟩ ?_
        first
          | exact ih (k + 1, F) ⟨by show 1 ≤ k + 1 ∧ k + 1 ≤ 2 ^ n; omega, fun u hu he => by
              by_cases w : u = k
              · subst w; exfalso; omega
              · exact hI.2 u (by omega) he⟩ (by show 2 ^ n - (k + 1) < 2 ^ n - k; omega)
          | (refine tt_mem (μ' := ot_uc μ ln (up1 F (k : Int) z53)) (by funext q c1; by_cases w1 : q = ln <;> simp [ot_up, ot_uc, up1, w1]) ?_
             exact ih (k + 1, up1 F (k : Int) z53) ⟨by show 1 ≤ k + 1 ∧ k + 1 ≤ 2 ^ n; omega, fun u hu he => by
              by_cases w : u = k
              · subst w; show up1 F (u : Int) z53 (u : Int) = _; rw [up1_s]; exact hz53
              · show up1 F (k : Int) z53 (u : Int) = _; rw [up1_n (by omega)]; exact hI.2 u (by omega) he⟩ (by show 2 ^ n - (k + 1) < 2 ^ n - k; omega))
  · exact absurd b13 (by omega)
set_option maxRecDepth 100000 in
set_option maxHeartbeats 1000000 in
theorem c_fillLeastN (l : Launch) (g : ot_G) (ln : Nat) (ext : ot_L) (μ : ot_M) (n nl : Nat) (hn : μ 41 5 = (n : Int)) (hO : gOd n (μ 2) (μ 3) (μ 43)) (hln : gLn ln nl ext) (hnl : nl < 2 ^ n)  : ot_C l g yX5_fillLeast cX5_fillLeast 3 none 3 1 4096 [.inr 41] (LL ln ext) μ (ot_pv (fun L2 μ2 => ∃ (ln2 : Nat) (ext2 : ot_L) (nl2 : Nat) (F : Int → Int), gLn ln2 nl2 ext2 ∧ 2 ^ n ≤ nl2 ∧ L2 = LL ln2 ext2 ∧ (∀ u, u < 2 ^ n → cnt u n % 2 = 0 → F (u : Int) = (tT (lnD n (μ 2) (μ 3) (μ 43)) n) u) ∧ μ2 = ot_uc μ ln2 F)) := by
  refine ot_enter (by decide) (Nat.le_of_ble_eq_true rfl) ?_
  intro p e s m args below meth c X hr
  have hn12 := hO.1
  have hp := p12 hn12
  have hnl4 := hln.2.2
  refine tt_iconst X dX5_fillLeast_0 ?_
  refine tt_aload_n X rfl dX5_fillLeast_1 ?_
  refine tt_geti X fX5_50 (k_41 _ _) (by decide) (Or.inl rfl) dX5_fillLeast_2 ?_
  rw [hn]
  refine tt_ishl X dX5_fillLeast_5 ?_
  refine tt_top (bo_shl1 n (by omega)) ?_
  refine tt_istore_n X dX5_fillLeast_6 (by decide) ?_
  refine tt_aload_n X rfl dX5_fillLeast_7 ?_
  refine tt_getr X fX5_18 (k_41 _ _) (by decide) ⟨nofun, nofun⟩ rfl dX5_fillLeast_8 ?_
  refine tt_alen X hln.1 (by decide) dX5_fillLeast_11 ?_
  
  refine tt_iload_n X rfl dX5_fillLeast_12 ?_
  refine tt_icmp_ge X 23 (by omega) dX5_fillLeast_13 (by decide) (fun b13 => ?_) (fun b13 => ?_)
  · exact absurd b13 (by omega)
  · refine tt_aload_n X rfl dX5_fillLeast_16 ?_
    refine tt_iload_n X rfl dX5_fillLeast_17 ?_
    refine tt_newA X (kd := 0) (n := 2 ^ n) (Or.inl ⟨rfl, rfl⟩) (ot_mem 64 (by decide +kernel) (by decide +kernel)) rfl (by omega) (by decide) (by show 0 + 2 ^ n ≤ 4096; omega) dX5_fillLeast_18 ?_
    obtain ⟨l2, hl2⟩ : ∃ l2, l2 = (LL ln ext).length := ⟨_, rfl⟩
    rw [← hl2]
    have hl3 : l2 = 88 + ext.length := by rw [hl2, LL_len]
    refine tt_lay (LL_push ln ext _) ?_
    refine tt_putl X fX5_18 kc_5 (k_41 _ _) (by decide) (fun q hq => by cases hq; rfl) ⟨nofun, nofun⟩ (fun _ => rfl) (fun _ => rfl) (LL_ln ln l2 _) rfl (fun i hi => ?_) dX5_fillLeast_20 ?_
    · rcases i with _ | _ | _ | _ | i <;> first | rfl | exact absurd rfl hi
    have hg2 : gLn l2 (2 ^ n) (ext ++ [(0, 2 ^ n, [])]) := ⟨by rw [hl3]; exact LL_at _ _ _, Or.inr (by omega), by omega, by omega⟩
    have hrd : ∀ F k, k < 88 → k ≠ 44 → ot_uc (ot_uc μ l2 (fun _ => 0)) l2 F k = μ k := fun F k h1 h2 => by rw [gLn_rd hg2 _ _ k h1 h2, gLn_rd hg2 _ _ k h1 h2]
    have hrd0 : ∀ k, k < 88 → k ≠ 44 → ot_uc μ l2 (fun _ => 0) k = μ k := fun k h1 h2 => gLn_rd hg2 _ _ k h1 h2
    refine tt_aload_n X rfl dX5_fillLeast_23 ?_
    refine tt_getr X fX5_18 (k_41 _ _) (by decide) ⟨nofun, nofun⟩ rfl dX5_fillLeast_24 ?_
    refine tt_iconst X dX5_fillLeast_27 ?_
    refine tt_iconst X dX5_fillLeast_28 ?_
    refine tt_iastore X hg2.1 (by have := hg2.2.2; omega) dX5_fillLeast_29 ?_
    refine tt_iconst X dX5_fillLeast_30 ?_
    refine tt_istore_n X dX5_fillLeast_31 (by decide) ?_
    refine tt_mem (μ' := ot_uc (ot_uc μ l2 (fun _ => 0)) l2 (up1 ((ot_uc μ l2 (fun _ => 0)) l2) 0 0)) (by funext q c1; by_cases w1 : q = l2 <;> simp [ot_up, ot_uc, up1, w1]) ?_
    refine tt_loc [(0, _), (1, _), (2, _)] ⟨rfl, rfl, rfl, trivial⟩ ?_
    refine tt_loop (α := Nat × (Int → Int)) (fun ((k, F)) => 2 ^ n - k) (fun ((k, F)) => (1 ≤ k ∧ k ≤ 2 ^ n) ∧ ∀ u, u < k → cnt u n % 2 = 0 → F (u : Int) = (tT (lnD n (μ 2) (μ 3) (μ 43)) n) u) (fun ((k, F)) => ot_uc (ot_uc μ l2 (fun _ => 0)) l2 F) (fun ((k, F)) => [(0, .inr 41), (1, .inl ((2 ^ n : Nat) : Int)), (2, .inl (k : Int))]) (1, up1 ((ot_uc μ l2 (fun _ => 0)) l2) 0 0) ⟨⟨Nat.le_refl _, hp.1⟩, fun u hu _ => by have hu0 : u = 0 := (by omega); subst hu0; exact up1_s⟩ ?_
    intro a hI ih
    obtain ⟨k, F⟩ := a
    try dsimp only at hI ih ⊢
    replace hI : (1 ≤ k ∧ k ≤ 2 ^ n) ∧ ∀ u, u < k → cnt u n % 2 = 0 → F (u : Int) = (tT (lnD n (μ 2) (μ 3) (μ 43)) n) u := hI
    have hk := hI.1
    refine tt_iload_n X rfl dX5_fillLeast_32 ?_
    refine tt_iload_n X rfl dX5_fillLeast_33 ?_
    refine tt_icmp_ge X 63 (by first | omega | (simp (disch := decide) only [ot_rd, ot_rs, ot_rf, ot_ucd, ot_ucs, hrd, hrd0]; omega)) dX5_fillLeast_34 (by decide) (fun b34 => ?_) (fun b34 => ?_)
    · refine tt_vret X ⟨hr.1, hr.2.1⟩ (by first | decide | (show (_ : Nat) ≤ 4096; omega)) (by first | decide | (show (_ : Nat) ≤ 4096; omega)) dX5_fillLeast_63 ?_
      have hke : k = 2 ^ n := by omega
      subst hke
      exact ⟨l2, _, 2 ^ n, F, hg2, Nat.le_refl _, rfl, hI.2, by funext q; by_cases w : q = l2 <;> simp [ot_uc, w]⟩
    · refine tt_iload_n X rfl dX5_fillLeast_37 ?_
      
      refine tt_si X rfl mX5_69 (c_bitCount l g l2 (ext ++ [(0, 2 ^ n, [])]) _ k (by omega)) rfl rfl (Nat.le_of_ble_eq_true rfl) (by decide) (by first | decide | (show (_ : Nat) ≤ 4096; omega)) (by first | decide | (show (_ : Nat) ≤ 4096; omega)) dX5_fillLeast_38 (fun z38 L38 μ38 hp => ?_)
      obtain ⟨rfl, e38, hz38⟩ := hp
      replace e38 := e38.symm
      subst e38
      try simp (disch := decide) only [ot_rd, ot_rs, ot_rf, ot_ucd, ot_ucs, hrd, hrd0] at hz38
      refine tt_iconst X dX5_fillLeast_41 ?_
      refine tt_iand X dX5_fillLeast_42 ?_
      refine tt_top (y := ((cnt k 24 % 2 : Nat) : Int)) (by rw [hz38, show (1 : Int) = ((1 : Nat) : Int) from rfl, bo_and _ _ (by have := cnt_le k 24; omega), Nat.and_one_is_mod]) ?_
      have hcm := cnt_more (m := k) (k := n) (by omega) 24 (by omega)
      refine tt_if_ne X 57 (by first | omega | (simp (disch := decide) only [ot_rd, ot_rs, ot_rf, ot_ucd, ot_ucs, hrd, hrd0, hrd, hrd0]; omega)) dX5_fillLeast_43 (by decide) (fun b43 => ?_) (fun b43 => ?_)
      · refine tt_iinc X dX5_fillLeast_57 rfl (by decide) ?_
        refine tt_goto X 32 dX5_fillLeast_60 (by decide) ?_
        refine tt_loc [(0, _), (1, _), (2, _)] ⟨rfl, rfl, rfl, trivial⟩ ?_
        first
          | exact ih (k + 1, F) ⟨by show 1 ≤ k + 1 ∧ k + 1 ≤ 2 ^ n; omega, fun u hu he => by
              by_cases w : u = k
              · subst w; exfalso; omega
              · exact hI.2 u (by omega) he⟩ (by show 2 ^ n - (k + 1) < 2 ^ n - k; omega)
          | (refine tt_mem (μ' := ot_uc (ot_uc μ l2 (fun _ => 0)) l2 (up1 F (k : Int) z53)) (by funext q c1; by_cases w1 : q = l2 <;> simp [ot_up, ot_uc, up1, w1]) ?_
             exact ih (k + 1, up1 F (k : Int) z53) ⟨by show 1 ≤ k + 1 ∧ k + 1 ≤ 2 ^ n; omega, fun u hu he => by
              by_cases w : u = k
              · subst w; show up1 F (u : Int) z53 (u : Int) = _; rw [up1_s]; exact hz53
              · show up1 F (k : Int) z53 (u : Int) = _; rw [up1_n (by omega)]; exact hI.2 u (by omega) he⟩ (by show 2 ^ n - (k + 1) < 2 ^ n - k; omega))
      · refine tt_aload_n X rfl dX5_fillLeast_46 ?_
        refine tt_getr X fX5_18 (k_41 _ _) (by decide) ⟨nofun, nofun⟩ rfl dX5_fillLeast_47 ?_
        refine tt_iload_n X rfl dX5_fillLeast_50 ?_
        refine tt_aload_n X rfl dX5_fillLeast_51 ?_
        refine tt_iload_n X rfl dX5_fillLeast_52 ?_
        refine tt_vi X rfl mX5_81 (c_leastOf l g l2 (ext ++ [(0, 2 ^ n, [])]) _ k n (2 ^ n) (by simp (disch := decide) only [hrd, hrd0]; exact hn) (by simp (disch := decide) only [hrd, hrd0]; exact hO) hg2 (by omega) (by omega) (by omega) (by omega) (by simp (disch := decide) only [hrd, hrd0, ot_ucs]; exact hI.2)) (k_41 _ _) ⟨_, rfl, rfl⟩ rfl rfl (Nat.le_of_ble_eq_true rfl) (by decide) (by first | decide | (show (_ : Nat) ≤ 4096; omega)) (by first | decide | (show (_ : Nat) ≤ 4096; omega)) dX5_fillLeast_53 (fun z53 L53 μ53 hp => ?_)
        obtain ⟨rfl, e53, hz53⟩ := hp
        replace e53 := e53.symm
        subst e53
        simp (disch := decide) only [hrd, hrd0] at hz53
        try simp (disch := decide) only [ot_rd, ot_rs, ot_rf, ot_ucd, ot_ucs, hrd, hrd0, hrd, hrd0] at hz53
        refine tt_iastore X hg2.1 (by have := hg2.2.2; omega) dX5_fillLeast_56 ?_
        refine tt_iinc X dX5_fillLeast_57 rfl (by decide) ?_
        refine tt_goto X 32 dX5_fillLeast_60 (by decide) ?_
        refine tt_loc [(0, _), (1, _), (2, _)] ⟨rfl, rfl, rfl, trivial⟩ ?_
        first
          | exact ih (k + 1, F) ⟨by show 1 ≤ k + 1 ∧ k + 1 ≤ 2 ^ n; omega, fun u hu he => by
              by_cases w : u = k
              · subst w; exfalso; omega
              · exact hI.2 u (by omega) he⟩ (by show 2 ^ n - (k + 1) < 2 ^ n - k; omega)
          | (refine tt_mem (μ' := ot_uc (ot_uc μ l2 (fun _ => 0)) l2 (up1 F (k : Int) z53)) (by funext q c1; by_cases w1 : q = l2 <;> simp [ot_up, ot_uc, up1, w1]) ?_
             exact ih (k + 1, up1 F (k : Int) z53) ⟨by show 1 ≤ k + 1 ∧ k + 1 ≤ 2 ^ n; omega, fun u hu he => by
              by_cases w : u = k
              · subst w; show up1 F (u : Int) z53 (u : Int) = _; rw [up1_s]; exact hz53
              · show up1 F (k : Int) z53 (u : Int) = _; rw [up1_n (by omega)]; exact hI.2 u (by omega) he⟩ (by show 2 ^ n - (k + 1) < 2 ^ n - k; omega))

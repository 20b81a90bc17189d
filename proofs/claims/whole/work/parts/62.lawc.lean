theorem lw_cd {op arg fct : Int → Int} {a b i : Int} (hs : sOk op arg a b) (hi : a ≤ i ∧ i < b) (hf : ∀ i, 0 ≤ i → i < 8 → -2147483648 ≤ fct i ∧ fct i ≤ 2147483647) {h c : Int} (hh : h = ((evl op arg fct a (i - a).toNat).length : Int)) (hc : c = enc (op i) (arg i)) :
    (op i = 0 ∧ (0 ≤ arg i ∧ arg i ≤ 9999) ∧ (0 ≤ h ∧ h ≤ 30) ∧ c = arg i) ∨ (op i = 1 ∧ (0 ≤ arg i ∧ arg i < 8) ∧ (0 ≤ h ∧ h ≤ 30) ∧ c = 10000 + arg i) ∨ (op i = 9 ∧ (1 ≤ h ∧ h ≤ 31) ∧ c = -5) ∨ ((2 ≤ op i ∧ op i ≤ 11 ∧ op i ≠ 9) ∧ (2 ≤ h ∧ h ≤ 31) ∧ (-62 ≤ c ∧ c ≤ -3) ∧ c ≠ -5) := by
  have hD := lw_dis hs hi hf hh
  have hE := enc_dis hc
  rcases hD with hD | hD | hD | hD
  · refine Or.inl ⟨hD.1, hD.2.1, hD.2.2, ?_⟩
    rw [hc, hD.1]; rfl
  · refine Or.inr (Or.inl ⟨hD.1, hD.2.1, hD.2.2, ?_⟩)
    rw [hc, hD.1]; rfl
  · refine Or.inr (Or.inr (Or.inl ⟨hD.1, hD.2, ?_⟩))
    rw [hc, hD.1]; rfl
  · refine Or.inr (Or.inr (Or.inr ⟨hD.1, hD.2, ?_, ?_⟩))
    · omega
    · omega
theorem enc_sg {o v : Int} (h : 2 ≤ o ∧ o ≤ 11 ∧ o ≠ 9) {c : Int} (hc : c = enc o v) : (o = 2 ∧ -c = 43) ∨ (o = 3 ∧ -c = 45) ∨ (o = 4 ∧ -c = 42) ∨ (o = 5 ∧ -c = 47) ∨ (o = 6 ∧ -c = 60) ∨ (o = 7 ∧ -c = 61) ∨ (o = 8 ∧ -c = 62) ∨ (o = 10 ∧ -c = 4) ∨ (o = 11 ∧ -c = 3) := by
  rcases enc_dis hc with w | w | w | w | w | w | w | w | w | w | w | w
  · exact absurd w.1 (by omega)
  · exact absurd w.1 (by omega)
  · exact Or.inl ⟨by omega, by omega⟩
  · exact Or.inr (Or.inl ⟨by omega, by omega⟩)
  · exact Or.inr (Or.inr (Or.inl ⟨by omega, by omega⟩))
  · exact Or.inr (Or.inr (Or.inr (Or.inl ⟨by omega, by omega⟩)))
  · exact Or.inr (Or.inr (Or.inr (Or.inr (Or.inl ⟨by omega, by omega⟩))))
  · exact Or.inr (Or.inr (Or.inr (Or.inr (Or.inr (Or.inl ⟨by omega, by omega⟩)))))
  · exact Or.inr (Or.inr (Or.inr (Or.inr (Or.inr (Or.inr (Or.inl ⟨by omega, by omega⟩))))))
  · exact absurd w.1 (by omega)
  · exact Or.inr (Or.inr (Or.inr (Or.inr (Or.inr (Or.inr (Or.inr (Or.inl ⟨by omega, by omega⟩)))))))
  · exact Or.inr (Or.inr (Or.inr (Or.inr (Or.inr (Or.inr (Or.inr (Or.inr (⟨by omega, by omega⟩))))))))
theorem ot_uc_up1 {μ : ot_M} {k : Nat} {f : Int → Int} {i v : Int} : ot_up (ot_uc μ k f) k i v = ot_uc μ k (up1 f i v) := ot_uc_up
set_option maxRecDepth 100000 in
set_option maxHeartbeats 1000000 in
theorem c_joined (l : Launch) (g : ot_G) (ln : Nat) (ext : ot_L) (μ : ot_M) (o sg x y : Int) (hx : -2147483648 ≤ x ∧ x ≤ 2147483647) (hy : -2147483648 ≤ y ∧ y ≤ 2147483647)(hsg : ((o = 2 ∧ sg = 43) ∨ (o = 3 ∧ sg = 45) ∨ (o = 4 ∧ sg = 42) ∨ (o = 5 ∧ sg = 47) ∨ (o = 6 ∧ sg = 60) ∨ (o = 7 ∧ sg = 61) ∨ (o = 8 ∧ sg = 62) ∨ (o = 10 ∧ sg = 4) ∨ (o = 11 ∧ sg = 3))) (h5 : o = 5 → 1 ≤ y ∧ y ≤ 9999) (hb : o = 10 ∨ o = 11 → (x = 0 ∨ x = 1) ∧ (y = 0 ∨ y = 1)) : ot_C l g yX3_joined cX3_joined 3 (some .int) 0 0 0 [.inl sg, .inl x, .inl y] (LL ln ext) μ (ot_pi (fun r L2 μ2 => L2 = LL ln ext ∧ μ2 = μ ∧ r = tw o x y)) := by
  refine ot_enter (by decide) (Nat.le_of_ble_eq_true rfl) ?_
  intro p e s m args below meth c X hr
  refine tt_iload_n X rfl dX3_joined_0 ?_
  rcases (show sg = 4 ∨ sg = 42 ∨ sg = 43 ∨ sg = 45 ∨ sg = 47 ∨ sg = 60 ∨ sg = 61 ∨ sg = 62 ∨ (sg ≠ 4 ∧ sg ≠ 42 ∧ sg ≠ 43 ∧ sg ≠ 45 ∧ sg ≠ 47 ∧ sg ≠ 60 ∧ sg ≠ 61 ∧ sg ≠ 62) by omega) with sw | sw | sw | sw | sw | sw | sw | sw | sw
  · refine tt_lookup X 133 (by omega) dX3_joined_1 (by decide) (by first | (rw [sw]; done) | (rw [sw]; rfl)) (by decide) ?_
    refine tt_iload_n X rfl dX3_joined_133 ?_
    refine tt_iload_n X rfl dX3_joined_134 ?_
    refine tt_iand X dX3_joined_135 ?_
    refine tt_iret X ⟨hr.1, hr.2.1⟩ (by decide) (by decide) dX3_joined_136 ?_
    have ho : o = 10 := by omega
    subst ho
    exact ⟨rfl, rfl, and_b (hb (Or.inl rfl)).1 (hb (Or.inl rfl)).2⟩
  · refine tt_lookup X 84 (by omega) dX3_joined_1 (by decide) (by first | (rw [sw]; done) | (rw [sw]; rfl)) (by decide) ?_
    refine tt_iload_n X rfl dX3_joined_84 ?_
    refine tt_iload_n X rfl dX3_joined_85 ?_
    refine tt_imul X dX3_joined_86 ?_
    refine tt_wrap (wI_of _) ?_
    refine tt_iret X ⟨hr.1, hr.2.1⟩ (by decide) (by decide) dX3_joined_87 ?_
    have ho : o = 4 := by omega
    subst ho
    exact ⟨rfl, rfl, rfl⟩
  · refine tt_lookup X 76 (by omega) dX3_joined_1 (by decide) (by first | (rw [sw]; done) | (rw [sw]; rfl)) (by decide) ?_
    refine tt_iload_n X rfl dX3_joined_76 ?_
    refine tt_iload_n X rfl dX3_joined_77 ?_
    refine tt_iadd X dX3_joined_78 ?_
    refine tt_wrap (wI_of _) ?_
    refine tt_iret X ⟨hr.1, hr.2.1⟩ (by decide) (by decide) dX3_joined_79 ?_
    have ho : o = 2 := by omega
    subst ho
    exact ⟨rfl, rfl, rfl⟩
  · refine tt_lookup X 80 (by omega) dX3_joined_1 (by decide) (by first | (rw [sw]; done) | (rw [sw]; rfl)) (by decide) ?_
    refine tt_iload_n X rfl dX3_joined_80 ?_
    refine tt_iload_n X rfl dX3_joined_81 ?_
    refine tt_isub X dX3_joined_82 ?_
    refine tt_wrap (wI_of _) ?_
    refine tt_iret X ⟨hr.1, hr.2.1⟩ (by decide) (by decide) dX3_joined_83 ?_
    have ho : o = 3 := by omega
    subst ho
    exact ⟨rfl, rfl, rfl⟩
  · refine tt_lookup X 88 (by omega) dX3_joined_1 (by decide) (by first | (rw [sw]; done) | (rw [sw]; rfl)) (by decide) ?_
    refine tt_iload_n X rfl dX3_joined_88 ?_
    refine tt_if_ne X 96 (by omega) dX3_joined_89 (by decide) (fun b89 => ?_) (fun b89 => ?_)
    · refine tt_iload_n X rfl dX3_joined_96 ?_
      refine tt_iload_n X rfl dX3_joined_97 ?_
      refine tt_idiv X (by (have := h5 (by omega); omega)) dX3_joined_98 ?_
      refine tt_iret X ⟨hr.1, hr.2.1⟩ (by decide) (by decide) dX3_joined_99 ?_
      have ho : o = 5 := by omega
      subst ho
      exact ⟨rfl, rfl, rfl⟩
    · exact absurd b89 (by have := h5 (by omega); omega)
  · refine tt_lookup X 100 (by omega) dX3_joined_1 (by decide) (by first | (rw [sw]; done) | (rw [sw]; rfl)) (by decide) ?_
    refine tt_iload_n X rfl dX3_joined_100 ?_
    refine tt_iload_n X rfl dX3_joined_101 ?_
    refine tt_icmp_ge X 109 (by omega) dX3_joined_102 (by decide) (fun b102 => ?_) (fun b102 => ?_)
    · refine tt_iconst X dX3_joined_109 ?_
      refine tt_iret X ⟨hr.1, hr.2.1⟩ (by decide) (by decide) dX3_joined_110 ?_
      have ho : o = 6 := by omega
      subst ho
      refine ⟨rfl, rfl, ?_⟩
      show _ = if x < y then (1 : Int) else 0
      first | (rw [if_pos (by omega)]; done) | rw [if_neg (by omega)]
    · refine tt_iconst X dX3_joined_105 ?_
      refine tt_goto X 110 dX3_joined_106 (by decide) ?_
      refine tt_iret X ⟨hr.1, hr.2.1⟩ (by decide) (by decide) dX3_joined_110 ?_
      have ho : o = 6 := by omega
      subst ho
      refine ⟨rfl, rfl, ?_⟩
      show _ = if x < y then (1 : Int) else 0
      first | (rw [if_pos (by omega)]; done) | rw [if_neg (by omega)]
  · refine tt_lookup X 111 (by omega) dX3_joined_1 (by decide) (by first | (rw [sw]; done) | (rw [sw]; rfl)) (by decide) ?_
    refine tt_iload_n X rfl dX3_joined_111 ?_
    refine tt_iload_n X rfl dX3_joined_112 ?_
    refine tt_icmp_ne X 120 (by omega) dX3_joined_113 (by decide) (fun b113 => ?_) (fun b113 => ?_)
    · refine tt_iconst X dX3_joined_120 ?_
      refine tt_iret X ⟨hr.1, hr.2.1⟩ (by decide) (by decide) dX3_joined_121 ?_
      have ho : o = 7 := by omega
      subst ho
      refine ⟨rfl, rfl, ?_⟩
      show _ = if x = y then (1 : Int) else 0
      first | (rw [if_pos (by omega)]; done) | rw [if_neg (by omega)]
    · refine tt_iconst X dX3_joined_116 ?_
      refine tt_goto X 121 dX3_joined_117 (by decide) ?_
      refine tt_iret X ⟨hr.1, hr.2.1⟩ (by decide) (by decide) dX3_joined_121 ?_
      have ho : o = 7 := by omega
      subst ho
      refine ⟨rfl, rfl, ?_⟩
      show _ = if x = y then (1 : Int) else 0
      first | (rw [if_pos (by omega)]; done) | rw [if_neg (by omega)]
  · refine tt_lookup X 122 (by omega) dX3_joined_1 (by decide) (by first | (rw [sw]; done) | (rw [sw]; rfl)) (by decide) ?_
    refine tt_iload_n X rfl dX3_joined_122 ?_
    refine tt_iload_n X rfl dX3_joined_123 ?_
    refine tt_icmp_le X 131 (by omega) dX3_joined_124 (by decide) (fun b124 => ?_) (fun b124 => ?_)
    · refine tt_iconst X dX3_joined_131 ?_
      refine tt_iret X ⟨hr.1, hr.2.1⟩ (by decide) (by decide) dX3_joined_132 ?_
      have ho : o = 8 := by omega
      subst ho
      refine ⟨rfl, rfl, ?_⟩
      show _ = if y < x then (1 : Int) else 0
      first | (rw [if_pos (by omega)]; done) | rw [if_neg (by omega)]
    · refine tt_iconst X dX3_joined_127 ?_
      refine tt_goto X 132 dX3_joined_128 (by decide) ?_
      refine tt_iret X ⟨hr.1, hr.2.1⟩ (by decide) (by decide) dX3_joined_132 ?_
      have ho : o = 8 := by omega
      subst ho
      refine ⟨rfl, rfl, ?_⟩
      show _ = if y < x then (1 : Int) else 0
      first | (rw [if_pos (by omega)]; done) | rw [if_neg (by omega)]
  · refine tt_lookup X (off := 136) 137 (by omega) dX3_joined_1 (by decide) (by simp [Op.lookupswitch.offset_cons, Op.lookupswitch.offset, sw] <;> omega) (by decide) ?_
    refine tt_iload_n X rfl dX3_joined_137 ?_
    refine tt_iload_n X rfl dX3_joined_138 ?_
    refine tt_ior X dX3_joined_139 ?_
    refine tt_iret X ⟨hr.1, hr.2.1⟩ (by decide) (by decide) dX3_joined_140 ?_
    have ho : o = 11 := by omega
    subst ho
    exact ⟨rfl, rfl, or_b (hb (Or.inr rfl)).1 (hb (Or.inr rfl)).2⟩
set_option maxRecDepth 100000 in
set_option maxHeartbeats 1000000 in
theorem c_holds (l : Launch) (g : ot_G) (ln : Nat) (ext : ot_L) (μ : ot_M) (op arg fct : Int → Int) (a b : Int) (hs : sOk op arg a b) (hc : ∀ i, a ≤ i → i < b → μ 13 i = enc (op i) (arg i)) (hF : ∀ j, 0 ≤ j → j < 8 → μ 36 j = fct j) (hfr : ∀ i, 0 ≤ i → i < 8 → -2147483648 ≤ fct i ∧ fct i ≤ 2147483647)  : ot_C l g yX3_holds cX3_holds 7 (some .boolean) 1 0 0 [.inr 12, .inl a, .inl b, .inr 36] (LL ln ext) μ (ot_pi (fun r L2 μ2 => L2 = LL ln ext ∧ r = (if hold op arg fct a b then 1 else 0) ∧ ∃ S, μ2 = ot_uc μ 16 S)) := by
  refine ot_enter (by decide) (Nat.le_of_ble_eq_true rfl) ?_
  intro p e s m args below meth c X hr
  have hab := hs.1
  refine tt_aload_n X rfl dX3_holds_0 ?_
  refine tt_getr X fX3_22 (k_12 _ _) (by decide) ⟨nofun, nofun⟩ rfl dX3_holds_1 ?_
  refine tt_iconst X dX3_holds_4 ?_
  refine tt_iconst X dX3_holds_5 ?_
  refine tt_iastore X (k_16 _ _) (by omega) dX3_holds_6 ?_
  refine tt_iconst X dX3_holds_7 ?_
  refine tt_istore X dX3_holds_8 (by decide) ?_
  refine tt_iload_n X rfl dX3_holds_10 ?_
  refine tt_istore X dX3_holds_11 (by decide) ?_
  refine tt_mem (μ' := ot_uc μ 16 (up1 (μ 16) 0 1)) ot_up_uc ?_
  refine tt_loc [(0, _), (1, _), (2, _), (3, _), (4, _), (5, _)] ⟨rfl, rfl, rfl, rfl, rfl, rfl, trivial⟩ ?_
  refine tt_loop (α := Int × Int × (Int → Int)) (fun ((i, h, S)) => (b - i).toNat) (fun ((i, h, S)) => (a ≤ i ∧ i ≤ b) ∧ stk S (evl op arg fct a (i - a).toNat) ∧ h = ((evl op arg fct a (i - a).toNat).length : Int) ∧ (i = a → S 0 = 1)) (fun ((i, h, S)) => ot_uc μ 16 S) (fun ((i, h, S)) => [(0, .inr 12), (1, .inl a), (2, .inl b), (3, .inr 36), (4, .inl h), (5, .inl i)]) (a, 0, up1 (μ 16) 0 1) ⟨by show a ≤ a ∧ a ≤ b; omega, by rw [evl_zero op arg fct rfl]; trivial, by rw [evl_zero op arg fct rfl]; rfl, fun _ => up1_s⟩ ?_
  intro a hI ih
  obtain ⟨i, h, S⟩ := a
  try dsimp only at hI ih ⊢
  replace hI : (a ≤ i ∧ i ≤ b) ∧ stk S (evl op arg fct a (i - a).toNat) ∧ h = ((evl op arg fct a (i - a).toNat).length : Int) ∧ (i = a → S 0 = 1) := hI
  have hi := hI.1
  refine tt_iload X rfl dX3_holds_13 ?_
  refine tt_iload_n X rfl dX3_holds_15 ?_
  refine tt_icmp_ge X 163 (by first | omega | (simp (disch := decide) only [ot_rd, ot_rs, ot_rf, ot_ucd, ot_ucs]; omega)) dX3_holds_16 (by decide) (fun b16 => ?_) (fun b16 => ?_)
  · have h0 : (S 0 = 0 ∨ S 0 = 1) ∧ hold op arg fct a b = decide (S 0 ≠ 0) := by
      by_cases hab2 : a = b
      · have w := hI.2.2.2 (by omega)
        rw [w, ← hab2, hold_same]; exact ⟨by omega, rfl⟩
      · obtain ⟨x, hx, hx2⟩ := lw_end hs hab2 hfr
        have w := hI.2.1
        rw [show i = b by omega, hx] at w
        have w1 : S 0 = x := w.1
        rw [w1]; exact ⟨hx2, hold_end hab2 hx⟩
    refine tt_aload_n X rfl dX3_holds_163 ?_
    refine tt_getr X fX3_22 (k_12 _ _) (by decide) ⟨nofun, nofun⟩ rfl dX3_holds_164 ?_
    refine tt_iconst X dX3_holds_167 ?_
    refine tt_iaload X (k_16 _ _) (by first | omega | (simp (disch := decide) only [ot_rd, ot_rs, ot_rf, ot_ucd, ot_ucs]; omega)) dX3_holds_168 ?_
    try simp (disch := decide) only [ot_rd, ot_rs, ot_rf, ot_ucd, ot_ucs]
    refine tt_if_eq X 176 (by first | omega | (simp (disch := decide) only [ot_rd, ot_rs, ot_rf, ot_ucd, ot_ucs]; omega)) dX3_holds_169 (by decide) (fun b169 => ?_) (fun b169 => ?_)
    · refine tt_iconst X dX3_holds_176 ?_
      refine tt_zret X ⟨hr.1, hr.2.1⟩ (by omega) (by decide) (by decide) dX3_holds_177 ?_
      refine ⟨rfl, ?_, S, rfl⟩
      rw [h0.2]
      rcases h0.1 with w | w
      · first | omega | simp [w]
      · first | omega | simp [w]
    · refine tt_iconst X dX3_holds_172 ?_
      refine tt_goto X 177 dX3_holds_173 (by decide) ?_
      refine tt_zret X ⟨hr.1, hr.2.1⟩ (by omega) (by decide) (by decide) dX3_holds_177 ?_
      refine ⟨rfl, ?_, S, rfl⟩
      rw [h0.2]
      rcases h0.1 with w | w
      · first | omega | simp [w]
      · first | omega | simp [w]
  · have hib : a ≤ i ∧ i < b := by omega
    have hD := lw_cd hs hib hfr hI.2.2.1 (hc i hib.1 hib.2)
    refine tt_aload_n X rfl dX3_holds_19 ?_
    refine tt_getr X fX3_9 (k_12 _ _) (by decide) ⟨nofun, nofun⟩ rfl dX3_holds_20 ?_
    refine tt_iload X rfl dX3_holds_23 ?_
    refine tt_iaload X (k_13 _ _) (by first | omega | (simp (disch := decide) only [ot_rd, ot_rs, ot_rf, ot_ucd, ot_ucs]; omega)) dX3_holds_25 ?_
    try simp (disch := decide) only [ot_rd, ot_rs, ot_rf, ot_ucd, ot_ucs]
    refine tt_istore X dX3_holds_26 (by decide) ?_
    refine tt_iload X rfl dX3_holds_28 ?_
    refine tt_if_lt X 82 (by first | omega | (simp (disch := decide) only [ot_rd, ot_rs, ot_rf, ot_ucd, ot_ucs]; omega)) dX3_holds_30 (by decide) (fun b30 => ?_) (fun b30 => ?_)
    · refine tt_iload X rfl dX3_holds_82 ?_
      refine tt_bipush X (by decide) dX3_holds_84 ?_
      refine tt_icmp_ne X 117 (by first | omega | (simp (disch := decide) only [ot_rd, ot_rs, ot_rf, ot_ucd, ot_ucs]; omega)) dX3_holds_86 (by decide) (fun b86 => ?_) (fun b86 => ?_)
      · refine tt_iload X rfl dX3_holds_117 ?_
        refine tt_iconst X dX3_holds_119 ?_
        refine tt_icmp_le X 157 (by first | omega | (simp (disch := decide) only [ot_rd, ot_rs, ot_rf, ot_ucd, ot_ucs]; omega)) dX3_holds_120 (by decide) (fun b120 => ?_) (fun b120 => ?_)
        · exact absurd b120 (by omega)
        · refine tt_iinc X dX3_holds_123 rfl (by decide) ?_
          obtain ⟨x, y, u, hV, hx, hy, h5, hbo⟩ := lw_two hs hib hfr (by omega)
          have hst := hI.2.1
          have hhl := hI.2.2.1
          rw [hV] at hst hhl
          have hS2 := stk_two hst hhl
          have e1 : S (h + -1) = x := by rw [show h + -1 = h - 1 by omega]; exact hS2.1
          have e2 : S (h + -1 - 1) = y := by rw [show h + -1 - 1 = h - 2 by omega]; exact hS2.2
          refine tt_aload_n X rfl dX3_holds_126 ?_
          refine tt_getr X fX3_22 (k_12 _ _) (by decide) ⟨nofun, nofun⟩ rfl dX3_holds_127 ?_
          refine tt_iload X rfl dX3_holds_130 ?_
          refine tt_iconst X dX3_holds_132 ?_
          refine tt_isub X dX3_holds_133 ?_
          refine tt_iload X rfl dX3_holds_134 ?_
          refine tt_ineg X dX3_holds_136 ?_
          refine tt_aload_n X rfl dX3_holds_137 ?_
          refine tt_getr X fX3_22 (k_12 _ _) (by decide) ⟨nofun, nofun⟩ rfl dX3_holds_138 ?_
          refine tt_iload X rfl dX3_holds_141 ?_
          refine tt_iconst X dX3_holds_143 ?_
          refine tt_isub X dX3_holds_144 ?_
          refine tt_iaload X (k_16 _ _) (by first | omega | (simp (disch := decide) only [ot_rd, ot_rs, ot_rf, ot_ucd, ot_ucs]; omega)) dX3_holds_145 ?_
          try simp (disch := decide) only [ot_rd, ot_rs, ot_rf, ot_ucd, ot_ucs]
          refine tt_aload_n X rfl dX3_holds_146 ?_
          refine tt_getr X fX3_22 (k_12 _ _) (by decide) ⟨nofun, nofun⟩ rfl dX3_holds_147 ?_
          refine tt_iload X rfl dX3_holds_150 ?_
          refine tt_iaload X (k_16 _ _) (by first | omega | (simp (disch := decide) only [ot_rd, ot_rs, ot_rf, ot_ucd, ot_ucs]; omega)) dX3_holds_152 ?_
          try simp (disch := decide) only [ot_rd, ot_rs, ot_rf, ot_ucd, ot_ucs]
          refine tt_si X rfl mX3_41 (c_joined l g ln ext _ (op i) _ _ _ (by rw [e2]; exact hy) (by rw [e1]; exact hx) (enc_sg (by omega) (hc i hib.1 hib.2)) (by rw [e1]; exact h5) (by rw [e1, e2]; exact fun w => ⟨(hbo w).2, (hbo w).1⟩)) rfl rfl (Nat.le_of_ble_eq_true rfl) (by decide) (by decide) (by decide) dX3_holds_153 (fun z153 L153 μ153 hp => ?_)
          obtain ⟨rfl, e153, hz153⟩ := hp
          replace e153 := e153.symm
          subst e153
          have hjn : z153 = tw (op i) y x := by rw [hz153, e1, e2]
          refine tt_iastore X (k_16 _ _) (by first | omega | (simp (disch := decide) only [ot_rd, ot_rs, ot_rf, ot_ucd, ot_ucs]; omega)) dX3_holds_156 ?_
          refine tt_iinc X dX3_holds_157 rfl (by decide) ?_
          refine tt_goto X 13 dX3_holds_160 (by decide) ?_
          refine tt_loc [(0, _), (1, _), (2, _), (3, _), (4, _), (5, _)] ⟨rfl, rfl, rfl, rfl, rfl, rfl, trivial⟩ ?_
          first
            | (have ho : op i = 0 := by omega
               have hV2 := evl_step op arg fct hib.1
               rw [ho] at hV2
               replace hV2 : evl op arg fct a (i + 1 - a).toNat = arg i :: evl op arg fct a (i - a).toNat := hV2
               refine tt_mem (μ' := ot_uc μ 16 (up1 S h (arg i))) (by first | exact ot_uc_up | (rw [show μ 13 i = arg i by omega]; exact ot_uc_up)) ?_
               refine ih (i + 1, h + 1, up1 S h (arg i)) ⟨by show a ≤ i + 1 ∧ i + 1 ≤ b; omega, ?_, ?_, fun w => absurd w (by show ¬ i + 1 = a; omega)⟩ (by show (b - (i + 1)).toNat < (b - i).toNat; omega)
               · show stk _ (evl op arg fct a (i + 1 - a).toNat)
                 rw [hV2]; exact stk_put hI.2.1 hI.2.2.1
               · show h + 1 = ((evl op arg fct a (i + 1 - a).toNat).length : Int)
                 rw [hV2, List.length_cons]; omega)
            | (have ho : op i = 1 := by omega
               have hV2 := evl_step op arg fct hib.1
               rw [ho] at hV2
               replace hV2 : evl op arg fct a (i + 1 - a).toNat = fct (arg i) :: evl op arg fct a (i - a).toNat := hV2
               refine tt_mem (μ' := ot_uc μ 16 (up1 S h (fct (arg i)))) (by rw [← hF (arg i) (by omega) (by omega)]; first | exact ot_uc_up | (rw [show μ 13 i - 10000 = arg i by omega]; exact ot_uc_up)) ?_
               refine ih (i + 1, h + 1, up1 S h (fct (arg i))) ⟨by show a ≤ i + 1 ∧ i + 1 ≤ b; omega, ?_, ?_, fun w => absurd w (by show ¬ i + 1 = a; omega)⟩ (by show (b - (i + 1)).toNat < (b - i).toNat; omega)
               · show stk _ (evl op arg fct a (i + 1 - a).toNat)
                 rw [hV2]; exact stk_put hI.2.1 hI.2.2.1
               · show h + 1 = ((evl op arg fct a (i + 1 - a).toNat).length : Int)
                 rw [hV2, List.length_cons]; omega)
            | (have ho : op i = 9 := by omega
               obtain ⟨x, t, hV, hx⟩ := lw_not hs hib hfr ho
               have hV2 := evl_step op arg fct hib.1
               rw [ho, hV] at hV2
               replace hV2 : evl op arg fct a (i + 1 - a).toNat = wI (1 - x) :: t := hV2
               rw [wI_id (by omega) (by omega)] at hV2
               have hst := hI.2.1
               have hhl := hI.2.2.1
               rw [hV] at hst hhl
               have hT : S (h - 1) = x := stk_top hst hhl
               rw [List.length_cons] at hhl
               refine tt_mem (μ' := ot_uc μ 16 (up1 S (h - 1) (1 - x))) (by rw [hT]; exact ot_uc_up) ?_
               refine ih (i + 1, h, up1 S (h - 1) (1 - x)) ⟨by show a ≤ i + 1 ∧ i + 1 ≤ b; omega, ?_, ?_, fun w => absurd w (by show ¬ i + 1 = a; omega)⟩ (by show (b - (i + 1)).toNat < (b - i).toNat; omega)
               · show stk _ (evl op arg fct a (i + 1 - a).toNat)
                 rw [hV2]; exact stk_put hst.2 (by omega)
               · show h = ((evl op arg fct a (i + 1 - a).toNat).length : Int)
                 rw [hV2, List.length_cons]; omega)
            | (have hV2 := evl_step op arg fct hib.1
               rw [hV, ev1_two (by omega)] at hV2
               refine tt_mem (μ' := ot_uc μ 16 (up1 S (h + -1 - 1) (tw (op i) y x))) (by rw [← hjn]; exact ot_uc_up) ?_
               refine ih (i + 1, h + -1, up1 S (h + -1 - 1) (tw (op i) y x)) ⟨by show a ≤ i + 1 ∧ i + 1 ≤ b; omega, ?_, ?_, fun w => absurd w (by show ¬ i + 1 = a; omega)⟩ (by show (b - (i + 1)).toNat < (b - i).toNat; omega)
               · show stk _ (evl op arg fct a (i + 1 - a).toNat)
                 rw [hV2]; exact stk_put hst.2.2 (by rw [List.length_cons, List.length_cons] at hhl; omega)
               · show h + -1 = ((evl op arg fct a (i + 1 - a).toNat).length : Int)
                 rw [hV2, List.length_cons]; rw [List.length_cons, List.length_cons] at hhl; omega)
      · refine tt_iload X rfl dX3_holds_89 ?_
        refine tt_if_le X 117 (by first | omega | (simp (disch := decide) only [ot_rd, ot_rs, ot_rf, ot_ucd, ot_ucs]; omega)) dX3_holds_91 (by decide) (fun b91 => ?_) (fun b91 => ?_)
        · exact absurd b91 (by omega)
        · refine tt_aload_n X rfl dX3_holds_94 ?_
          refine tt_getr X fX3_22 (k_12 _ _) (by decide) ⟨nofun, nofun⟩ rfl dX3_holds_95 ?_
          refine tt_iload X rfl dX3_holds_98 ?_
          refine tt_iconst X dX3_holds_100 ?_
          refine tt_isub X dX3_holds_101 ?_
          refine tt_iconst X dX3_holds_102 ?_
          refine tt_aload_n X rfl dX3_holds_103 ?_
          refine tt_getr X fX3_22 (k_12 _ _) (by decide) ⟨nofun, nofun⟩ rfl dX3_holds_104 ?_
          refine tt_iload X rfl dX3_holds_107 ?_
          refine tt_iconst X dX3_holds_109 ?_
          refine tt_isub X dX3_holds_110 ?_
          refine tt_iaload X (k_16 _ _) (by first | omega | (simp (disch := decide) only [ot_rd, ot_rs, ot_rf, ot_ucd, ot_ucs]; omega)) dX3_holds_111 ?_
          try simp (disch := decide) only [ot_rd, ot_rs, ot_rf, ot_ucd, ot_ucs]
          refine tt_isub X dX3_holds_112 ?_
          refine tt_iastore X (k_16 _ _) (by first | omega | (simp (disch := decide) only [ot_rd, ot_rs, ot_rf, ot_ucd, ot_ucs]; omega)) dX3_holds_113 ?_
          refine tt_goto X 157 dX3_holds_114 (by decide) ?_
          refine tt_iinc X dX3_holds_157 rfl (by decide) ?_
          refine tt_goto X 13 dX3_holds_160 (by decide) ?_
          refine tt_loc [(0, _), (1, _), (2, _), (3, _), (4, _), (5, _)] ⟨rfl, rfl, rfl, rfl, rfl, rfl, trivial⟩ ?_
          first
            | (have ho : op i = 0 := by omega
               have hV2 := evl_step op arg fct hib.1
               rw [ho] at hV2
               replace hV2 : evl op arg fct a (i + 1 - a).toNat = arg i :: evl op arg fct a (i - a).toNat := hV2
               refine tt_mem (μ' := ot_uc μ 16 (up1 S h (arg i))) (by first | exact ot_uc_up | (rw [show μ 13 i = arg i by omega]; exact ot_uc_up)) ?_
               refine ih (i + 1, h + 1, up1 S h (arg i)) ⟨by show a ≤ i + 1 ∧ i + 1 ≤ b; omega, ?_, ?_, fun w => absurd w (by show ¬ i + 1 = a; omega)⟩ (by show (b - (i + 1)).toNat < (b - i).toNat; omega)
               · show stk _ (evl op arg fct a (i + 1 - a).toNat)
                 rw [hV2]; exact stk_put hI.2.1 hI.2.2.1
               · show h + 1 = ((evl op arg fct a (i + 1 - a).toNat).length : Int)
                 rw [hV2, List.length_cons]; omega)
            | (have ho : op i = 1 := by omega
               have hV2 := evl_step op arg fct hib.1
               rw [ho] at hV2
               replace hV2 : evl op arg fct a (i + 1 - a).toNat = fct (arg i) :: evl op arg fct a (i - a).toNat := hV2
               refine tt_mem (μ' := ot_uc μ 16 (up1 S h (fct (arg i)))) (by rw [← hF (arg i) (by omega) (by omega)]; first | exact ot_uc_up | (rw [show μ 13 i - 10000 = arg i by omega]; exact ot_uc_up)) ?_
               refine ih (i + 1, h + 1, up1 S h (fct (arg i))) ⟨by show a ≤ i + 1 ∧ i + 1 ≤ b; omega, ?_, ?_, fun w => absurd w (by show ¬ i + 1 = a; omega)⟩ (by show (b - (i + 1)).toNat < (b - i).toNat; omega)
               · show stk _ (evl op arg fct a (i + 1 - a).toNat)
                 rw [hV2]; exact stk_put hI.2.1 hI.2.2.1
               · show h + 1 = ((evl op arg fct a (i + 1 - a).toNat).length : Int)
                 rw [hV2, List.length_cons]; omega)
            | (have ho : op i = 9 := by omega
               obtain ⟨x, t, hV, hx⟩ := lw_not hs hib hfr ho
               have hV2 := evl_step op arg fct hib.1
               rw [ho, hV] at hV2
               replace hV2 : evl op arg fct a (i + 1 - a).toNat = wI (1 - x) :: t := hV2
               rw [wI_id (by omega) (by omega)] at hV2
               have hst := hI.2.1
               have hhl := hI.2.2.1
               rw [hV] at hst hhl
               have hT : S (h - 1) = x := stk_top hst hhl
               rw [List.length_cons] at hhl
               refine tt_mem (μ' := ot_uc μ 16 (up1 S (h - 1) (1 - x))) (by rw [hT]; exact ot_uc_up) ?_
               refine ih (i + 1, h, up1 S (h - 1) (1 - x)) ⟨by show a ≤ i + 1 ∧ i + 1 ≤ b; omega, ?_, ?_, fun w => absurd w (by show ¬ i + 1 = a; omega)⟩ (by show (b - (i + 1)).toNat < (b - i).toNat; omega)
               · show stk _ (evl op arg fct a (i + 1 - a).toNat)
                 rw [hV2]; exact stk_put hst.2 (by omega)
               · show h = ((evl op arg fct a (i + 1 - a).toNat).length : Int)
                 rw [hV2, List.length_cons]; omega)
            | (have hV2 := evl_step op arg fct hib.1
               rw [hV, ev1_two (by omega)] at hV2
               refine tt_mem (μ' := ot_uc μ 16 (up1 S (h + -1 - 1) (tw (op i) y x))) (by rw [← hjn]; exact ot_uc_up) ?_
               refine ih (i + 1, h + -1, up1 S (h + -1 - 1) (tw (op i) y x)) ⟨by show a ≤ i + 1 ∧ i + 1 ≤ b; omega, ?_, ?_, fun w => absurd w (by show ¬ i + 1 = a; omega)⟩ (by show (b - (i + 1)).toNat < (b - i).toNat; omega)
               · show stk _ (evl op arg fct a (i + 1 - a).toNat)
                 rw [hV2]; exact stk_put hst.2.2 (by rw [List.length_cons, List.length_cons] at hhl; omega)
               · show h + -1 = ((evl op arg fct a (i + 1 - a).toNat).length : Int)
                 rw [hV2, List.length_cons]; rw [List.length_cons, List.length_cons] at hhl; omega)
    · refine tt_iload X rfl dX3_holds_33 ?_
      refine tt_bipush X (by decide) dX3_holds_35 ?_
      refine tt_icmp_ge X 82 (by first | omega | (simp (disch := decide) only [ot_rd, ot_rs, ot_rf, ot_ucd, ot_ucs]; omega)) dX3_holds_37 (by decide) (fun b37 => ?_) (fun b37 => ?_)
      · exact absurd b37 (by omega)
      · refine tt_aload_n X rfl dX3_holds_40 ?_
        refine tt_getr X fX3_22 (k_12 _ _) (by decide) ⟨nofun, nofun⟩ rfl dX3_holds_41 ?_
        refine tt_iload X rfl dX3_holds_44 ?_
        refine tt_iload X rfl dX3_holds_46 ?_
        refine tt_sipush X (by decide) dX3_holds_48 ?_
        refine tt_icmp_lt X 73 (by first | omega | (simp (disch := decide) only [ot_rd, ot_rs, ot_rf, ot_ucd, ot_ucs]; omega)) dX3_holds_51 (by decide) (fun b51 => ?_) (fun b51 => ?_)
        · refine tt_iload X rfl dX3_holds_73 ?_
          refine tt_iastore X (k_16 _ _) (by first | omega | (simp (disch := decide) only [ot_rd, ot_rs, ot_rf, ot_ucd, ot_ucs]; omega)) dX3_holds_75 ?_
          refine tt_iinc X dX3_holds_76 rfl (by decide) ?_
          refine tt_goto X 157 dX3_holds_79 (by decide) ?_
          refine tt_iinc X dX3_holds_157 rfl (by decide) ?_
          refine tt_goto X 13 dX3_holds_160 (by decide) ?_
          refine tt_loc [(0, _), (1, _), (2, _), (3, _), (4, _), (5, _)] ⟨rfl, rfl, rfl, rfl, rfl, rfl, trivial⟩ ?_
          first
            | (have ho : op i = 0 := by omega
               have hV2 := evl_step op arg fct hib.1
               rw [ho] at hV2
               replace hV2 : evl op arg fct a (i + 1 - a).toNat = arg i :: evl op arg fct a (i - a).toNat := hV2
               refine tt_mem (μ' := ot_uc μ 16 (up1 S h (arg i))) (by first | exact ot_uc_up | (rw [show μ 13 i = arg i by omega]; exact ot_uc_up)) ?_
               refine ih (i + 1, h + 1, up1 S h (arg i)) ⟨by show a ≤ i + 1 ∧ i + 1 ≤ b; omega, ?_, ?_, fun w => absurd w (by show ¬ i + 1 = a; omega)⟩ (by show (b - (i + 1)).toNat < (b - i).toNat; omega)
               · show stk _ (evl op arg fct a (i + 1 - a).toNat)
                 rw [hV2]; exact stk_put hI.2.1 hI.2.2.1
               · show h + 1 = ((evl op arg fct a (i + 1 - a).toNat).length : Int)
                 rw [hV2, List.length_cons]; omega)
            | (have ho : op i = 1 := by omega
               have hV2 := evl_step op arg fct hib.1
               rw [ho] at hV2
               replace hV2 : evl op arg fct a (i + 1 - a).toNat = fct (arg i) :: evl op arg fct a (i - a).toNat := hV2
               refine tt_mem (μ' := ot_uc μ 16 (up1 S h (fct (arg i)))) (by rw [← hF (arg i) (by omega) (by omega)]; first | exact ot_uc_up | (rw [show μ 13 i - 10000 = arg i by omega]; exact ot_uc_up)) ?_
               refine ih (i + 1, h + 1, up1 S h (fct (arg i))) ⟨by show a ≤ i + 1 ∧ i + 1 ≤ b; omega, ?_, ?_, fun w => absurd w (by show ¬ i + 1 = a; omega)⟩ (by show (b - (i + 1)).toNat < (b - i).toNat; omega)
               · show stk _ (evl op arg fct a (i + 1 - a).toNat)
                 rw [hV2]; exact stk_put hI.2.1 hI.2.2.1
               · show h + 1 = ((evl op arg fct a (i + 1 - a).toNat).length : Int)
                 rw [hV2, List.length_cons]; omega)
            | (have ho : op i = 9 := by omega
               obtain ⟨x, t, hV, hx⟩ := lw_not hs hib hfr ho
               have hV2 := evl_step op arg fct hib.1
               rw [ho, hV] at hV2
               replace hV2 : evl op arg fct a (i + 1 - a).toNat = wI (1 - x) :: t := hV2
               rw [wI_id (by omega) (by omega)] at hV2
               have hst := hI.2.1
               have hhl := hI.2.2.1
               rw [hV] at hst hhl
               have hT : S (h - 1) = x := stk_top hst hhl
               rw [List.length_cons] at hhl
               refine tt_mem (μ' := ot_uc μ 16 (up1 S (h - 1) (1 - x))) (by rw [hT]; exact ot_uc_up) ?_
               refine ih (i + 1, h, up1 S (h - 1) (1 - x)) ⟨by show a ≤ i + 1 ∧ i + 1 ≤ b; omega, ?_, ?_, fun w => absurd w (by show ¬ i + 1 = a; omega)⟩ (by show (b - (i + 1)).toNat < (b - i).toNat; omega)
               · show stk _ (evl op arg fct a (i + 1 - a).toNat)
                 rw [hV2]; exact stk_put hst.2 (by omega)
               · show h = ((evl op arg fct a (i + 1 - a).toNat).length : Int)
                 rw [hV2, List.length_cons]; omega)
            | (have hV2 := evl_step op arg fct hib.1
               rw [hV, ev1_two (by omega)] at hV2
               refine tt_mem (μ' := ot_uc μ 16 (up1 S (h + -1 - 1) (tw (op i) y x))) (by rw [← hjn]; exact ot_uc_up) ?_
               refine ih (i + 1, h + -1, up1 S (h + -1 - 1) (tw (op i) y x)) ⟨by show a ≤ i + 1 ∧ i + 1 ≤ b; omega, ?_, ?_, fun w => absurd w (by show ¬ i + 1 = a; omega)⟩ (by show (b - (i + 1)).toNat < (b - i).toNat; omega)
               · show stk _ (evl op arg fct a (i + 1 - a).toNat)
                 rw [hV2]; exact stk_put hst.2.2 (by rw [List.length_cons, List.length_cons] at hhl; omega)
               · show h + -1 = ((evl op arg fct a (i + 1 - a).toNat).length : Int)
                 rw [hV2, List.length_cons]; rw [List.length_cons, List.length_cons] at hhl; omega)
        · refine tt_iload X rfl dX3_holds_54 ?_
          refine tt_sipush X (by decide) dX3_holds_56 ?_
          refine tt_icmp_ge X 73 (by first | omega | (simp (disch := decide) only [ot_rd, ot_rs, ot_rf, ot_ucd, ot_ucs]; omega)) dX3_holds_59 (by decide) (fun b59 => ?_) (fun b59 => ?_)
          · exact absurd b59 (by omega)
          · refine tt_aload_n X rfl dX3_holds_62 ?_
            refine tt_iload X rfl dX3_holds_63 ?_
            refine tt_sipush X (by decide) dX3_holds_65 ?_
            refine tt_isub X dX3_holds_68 ?_
            refine tt_iaload X (k_36 _ _) (by first | omega | (simp (disch := decide) only [ot_rd, ot_rs, ot_rf, ot_ucd, ot_ucs]; omega)) dX3_holds_69 ?_
            try simp (disch := decide) only [ot_rd, ot_rs, ot_rf, ot_ucd, ot_ucs]
            refine tt_goto X 75 dX3_holds_70 (by decide) ?_
            refine tt_iastore X (k_16 _ _) (by first | omega | (simp (disch := decide) only [ot_rd, ot_rs, ot_rf, ot_ucd, ot_ucs]; omega)) dX3_holds_75 ?_
            refine tt_iinc X dX3_holds_76 rfl (by decide) ?_
            refine tt_goto X 157 dX3_holds_79 (by decide) ?_
            refine tt_iinc X dX3_holds_157 rfl (by decide) ?_
            refine tt_goto X 13 dX3_holds_160 (by decide) ?_
            refine tt_loc [(0, _), (1, _), (2, _), (3, _), (4, _), (5, _)] ⟨rfl, rfl, rfl, rfl, rfl, rfl, trivial⟩ ?_
            first
              | (have ho : op i = 0 := by omega
                 have hV2 := evl_step op arg fct hib.1
                 rw [ho] at hV2
                 replace hV2 : evl op arg fct a (i + 1 - a).toNat = arg i :: evl op arg fct a (i - a).toNat := hV2
                 refine tt_mem (μ' := ot_uc μ 16 (up1 S h (arg i))) (by first | exact ot_uc_up | (rw [show μ 13 i = arg i by omega]; exact ot_uc_up)) ?_
                 refine ih (i + 1, h + 1, up1 S h (arg i)) ⟨by show a ≤ i + 1 ∧ i + 1 ≤ b; omega, ?_, ?_, fun w => absurd w (by show ¬ i + 1 = a; omega)⟩ (by show (b - (i + 1)).toNat < (b - i).toNat; omega)
                 · show stk _ (evl op arg fct a (i + 1 - a).toNat)
                   rw [hV2]; exact stk_put hI.2.1 hI.2.2.1
                 · show h + 1 = ((evl op arg fct a (i + 1 - a).toNat).length : Int)
                   rw [hV2, List.length_cons]; omega)
              | (have ho : op i = 1 := by omega
                 have hV2 := evl_step op arg fct hib.1
                 rw [ho] at hV2
                 replace hV2 : evl op arg fct a (i + 1 - a).toNat = fct (arg i) :: evl op arg fct a (i - a).toNat := hV2
                 refine tt_mem (μ' := ot_uc μ 16 (up1 S h (fct (arg i)))) (by rw [← hF (arg i) (by omega) (by omega)]; first | exact ot_uc_up | (rw [show μ 13 i - 10000 = arg i by omega]; exact ot_uc_up)) ?_
                 refine ih (i + 1, h + 1, up1 S h (fct (arg i))) ⟨by show a ≤ i + 1 ∧ i + 1 ≤ b; omega, ?_, ?_, fun w => absurd w (by show ¬ i + 1 = a; omega)⟩ (by show (b - (i + 1)).toNat < (b - i).toNat; omega)
                 · show stk _ (evl op arg fct a (i + 1 - a).toNat)
                   rw [hV2]; exact stk_put hI.2.1 hI.2.2.1
                 · show h + 1 = ((evl op arg fct a (i + 1 - a).toNat).length : Int)
                   rw [hV2, List.length_cons]; omega)
              | (have ho : op i = 9 := by omega
                 obtain ⟨x, t, hV, hx⟩ := lw_not hs hib hfr ho
                 have hV2 := evl_step op arg fct hib.1
                 rw [ho, hV] at hV2
                 replace hV2 : evl op arg fct a (i + 1 - a).toNat = wI (1 - x) :: t := hV2
                 rw [wI_id (by omega) (by omega)] at hV2
                 have hst := hI.2.1
                 have hhl := hI.2.2.1
                 rw [hV] at hst hhl
                 have hT : S (h - 1) = x := stk_top hst hhl
                 rw [List.length_cons] at hhl
                 refine tt_mem (μ' := ot_uc μ 16 (up1 S (h - 1) (1 - x))) (by rw [hT]; exact ot_uc_up) ?_
                 refine ih (i + 1, h, up1 S (h - 1) (1 - x)) ⟨by show a ≤ i + 1 ∧ i + 1 ≤ b; omega, ?_, ?_, fun w => absurd w (by show ¬ i + 1 = a; omega)⟩ (by show (b - (i + 1)).toNat < (b - i).toNat; omega)
                 · show stk _ (evl op arg fct a (i + 1 - a).toNat)
                   rw [hV2]; exact stk_put hst.2 (by omega)
                 · show h = ((evl op arg fct a (i + 1 - a).toNat).length : Int)
                   rw [hV2, List.length_cons]; omega)
              | (have hV2 := evl_step op arg fct hib.1
                 rw [hV, ev1_two (by omega)] at hV2
                 refine tt_mem (μ' := ot_uc μ 16 (up1 S (h + -1 - 1) (tw (op i) y x))) (by rw [← hjn]; exact ot_uc_up) ?_
                 refine ih (i + 1, h + -1, up1 S (h + -1 - 1) (tw (op i) y x)) ⟨by show a ≤ i + 1 ∧ i + 1 ≤ b; omega, ?_, ?_, fun w => absurd w (by show ¬ i + 1 = a; omega)⟩ (by show (b - (i + 1)).toNat < (b - i).toNat; omega)
                 · show stk _ (evl op arg fct a (i + 1 - a).toNat)
                   rw [hV2]; exact stk_put hst.2.2 (by rw [List.length_cons, List.length_cons] at hhl; omega)
                 · show h + -1 = ((evl op arg fct a (i + 1 - a).toNat).length : Int)
                   rw [hV2, List.length_cons]; rw [List.length_cons, List.length_cons] at hhl; omega)
set_option maxRecDepth 100000 in
set_option maxHeartbeats 1000000 in
theorem c_allows (l : Launch) (g : ot_G) (ln : Nat) (ext : ot_L) (μ : ot_M) (op arg lw lf lt fct : Int → Int) (hL : gLaw (μ 13) (μ 14) (μ 15) (μ 12 4) op arg lw lf lt) (hF : ∀ j, 0 ≤ j → j < 8 → μ 36 j = fct j) (hfr : ∀ i, 0 ≤ i → i < 8 → -2147483648 ≤ fct i ∧ fct i ≤ 2147483647)  : ot_C l g yX3_allows cX3_allows 4 (some .boolean) 2 0 0 [.inr 12, .inr 36] (LL ln ext) μ (ot_pi (fun r L2 μ2 => L2 = LL ln ext ∧ r = lawS op arg fct lw lf lt (μ 12 4).toNat (μ 12 4).toNat ∧ ∃ S, μ2 = ot_uc μ 16 S)) := by
  refine ot_enter (by decide) (Nat.le_of_ble_eq_true rfl) ?_
  intro p e s m args below meth c X hr
  have hm := hL.1
  refine tt_iconst X dX3_allows_0 ?_
  refine tt_istore_n X dX3_allows_1 (by decide) ?_
  refine tt_iconst X dX3_allows_2 ?_
  refine tt_istore_n X dX3_allows_3 (by decide) ?_
  refine tt_mem (μ' := ot_uc μ 16 (μ 16)) ot_uc_self.symm ?_
  refine tt_loc [(0, _), (1, _), (2, _), (3, _)] ⟨rfl, rfl, rfl, rfl, trivial⟩ ?_
  refine tt_loop (α := Int × Int × (Int → Int)) (fun ((i, st, S)) => (μ 12 4 - i).toNat) (fun ((i, st, S)) => (0 ≤ i ∧ i ≤ μ 12 4) ∧ st = (if i = 0 then 0 else lt (i - 1)) ∧ lawS op arg fct lw lf lt (μ 12 4).toNat (μ 12 4).toNat = lawS op arg fct lw lf lt (μ 12 4).toNat (μ 12 4 - i).toNat) (fun ((i, st, S)) => ot_uc μ 16 S) (fun ((i, st, S)) => [(0, .inr 12), (1, .inr 36), (2, .inl st), (3, .inl i)]) (0, 0, μ 16) ⟨by show 0 ≤ (0 : Int) ∧ (0 : Int) ≤ μ 12 4; omega, rfl, by rw [Int.sub_zero]⟩ ?_
  intro a hI ih
  obtain ⟨i, st, S⟩ := a
  try dsimp only at hI ih ⊢
  replace hI : (0 ≤ i ∧ i ≤ μ 12 4) ∧ st = (if i = 0 then 0 else lt (i - 1)) ∧ lawS op arg fct lw lf lt (μ 12 4).toNat (μ 12 4).toNat = lawS op arg fct lw lf lt (μ 12 4).toNat (μ 12 4 - i).toNat := hI
  have hi := hI.1
  refine tt_iload_n X rfl dX3_allows_4 ?_
  refine tt_aload_n X rfl dX3_allows_5 ?_
  refine tt_geti X fX3_25 (k_12 _ _) (by decide) (Or.inl rfl) dX3_allows_6 ?_
  try simp (disch := decide) only [ot_rd, ot_rs, ot_rf, ot_ucd, ot_ucs]
  refine tt_icmp_ge X 47 (by first | omega | (simp (disch := decide) only [ot_rd, ot_rs, ot_rf, ot_ucd, ot_ucs]; omega)) dX3_allows_9 (by decide) (fun b9 => ?_) (fun b9 => ?_)
  · refine tt_iconst X dX3_allows_47 ?_
    refine tt_zret X ⟨hr.1, hr.2.1⟩ (by omega) (by decide) (by decide) dX3_allows_48 ?_
    refine ⟨rfl, ?_, S, rfl⟩
    rw [hI.2.2, show (μ 12 4 - i).toNat = 0 by omega]
    rfl
  · have hLi := hL.2 i (by omega) (by omega)
    have hvd : μ 15 i = 0 ∨ μ 15 i = 1 := by rw [hLi.2.2.2.1]; split <;> omega
    refine tt_aload_n X rfl dX3_allows_12 ?_
    refine tt_iload_n X rfl dX3_allows_13 ?_
    refine tt_aload_n X rfl dX3_allows_14 ?_
    refine tt_getr X fX3_15 (k_12 _ _) (by decide) ⟨nofun, nofun⟩ rfl dX3_allows_15 ?_
    refine tt_iload_n X rfl dX3_allows_18 ?_
    refine tt_iaload X (k_14 _ _) (by first | omega | (simp (disch := decide) only [ot_rd, ot_rs, ot_rf, ot_ucd, ot_ucs]; omega)) dX3_allows_19 ?_
    try simp (disch := decide) only [ot_rd, ot_rs, ot_rf, ot_ucd, ot_ucs]
    refine tt_aload_n X rfl dX3_allows_20 ?_
    refine tt_vi X rfl mX3_35 (c_holds l g ln ext _ op arg fct _ _ (by rw [hI.2.1, hLi.2.2.1, ← hLi.1]; exact hLi.2.1) (by simp (disch := decide) only [ot_ucd, ot_ucs, ot_rd, ot_rs, ot_rf, ot_rdf]; rw [hI.2.1, hLi.2.2.1, ← hLi.1]; exact hLi.2.2.2.2.2) (by simp (disch := decide) only [ot_ucd, ot_ucs, ot_rd, ot_rs, ot_rf, ot_rdf]; exact hF) hfr) (k_12 _ _) ⟨_, rfl, rfl⟩ rfl rfl (Nat.le_of_ble_eq_true rfl) (by decide) (by decide) (by decide) dX3_allows_21 (fun z21 L21 μ21 hp => ?_)
    obtain ⟨rfl, hz21, S2, rfl⟩ := hp
    rw [hI.2.1, hLi.2.2.1, ← hLi.1] at hz21
    refine tt_mem (μ' := ot_uc μ 16 S2) (by funext u; by_cases u1 : u = 16 <;> simp [ot_uc, u1]) ?_
    refine tt_if_eq X 34 (by first | omega | (simp (disch := decide) only [ot_rd, ot_rs, ot_rf, ot_ucd, ot_ucs]; omega)) dX3_allows_24 (by decide) (fun b24 => ?_) (fun b24 => ?_)
    · refine tt_aload_n X rfl dX3_allows_34 ?_
      refine tt_getr X fX3_15 (k_12 _ _) (by decide) ⟨nofun, nofun⟩ rfl dX3_allows_35 ?_
      refine tt_iload_n X rfl dX3_allows_38 ?_
      refine tt_iaload X (k_14 _ _) (by first | omega | (simp (disch := decide) only [ot_rd, ot_rs, ot_rf, ot_ucd, ot_ucs]; omega)) dX3_allows_39 ?_
      try simp (disch := decide) only [ot_rd, ot_rs, ot_rf, ot_ucd, ot_ucs]
      refine tt_istore_n X dX3_allows_40 (by decide) ?_
      refine tt_iinc X dX3_allows_41 rfl (by decide) ?_
      refine tt_goto X 4 dX3_allows_44 (by decide) ?_
      refine tt_loc [(0, _), (1, _), (2, _), (3, _)] ⟨rfl, rfl, rfl, rfl, trivial⟩ ?_
      have hh : hold op arg fct (lf i) (lt i) = false := ite_nil hz21 (by omega)
      refine ih (i + 1, μ 14 i, S2) ⟨by show 0 ≤ i + 1 ∧ i + 1 ≤ μ 12 4; omega, ?_, ?_⟩ (by show (μ 12 4 - (i + 1)).toNat < (μ 12 4 - i).toNat; omega)
      · show μ 14 i = if i + 1 = 0 then 0 else lt (i + 1 - 1)
        rw [if_neg (by omega), show i + 1 - 1 = i by omega]; exact hLi.2.2.1
      · rw [hI.2.2, lawS_step (by omega), hh]; rfl
    · refine tt_aload_n X rfl dX3_allows_27 ?_
      refine tt_getr X fX3_18 (k_12 _ _) (by decide) ⟨nofun, nofun⟩ rfl dX3_allows_28 ?_
      refine tt_iload_n X rfl dX3_allows_31 ?_
      refine tt_baload X (k_15 _ _) (by first | omega | (simp (disch := decide) only [ot_rd, ot_rs, ot_rf, ot_ucd, ot_ucs]; omega)) dX3_allows_32 ?_
      try simp (disch := decide) only [ot_rd, ot_rs, ot_rf, ot_ucd, ot_ucs]
      refine tt_zret X ⟨hr.1, hr.2.1⟩ (by omega) (by decide) (by decide) dX3_allows_33 ?_
      have hh : hold op arg fct (lf i) (lt i) = true := ite_one hz21 (by omega)
      refine ⟨rfl, ?_, S2, rfl⟩
      rw [hI.2.2, lawS_step (by omega), hh, hLi.2.2.2.1]
      rfl
set_option maxRecDepth 100000 in
set_option maxHeartbeats 1000000 in
theorem c_mayGo (l : Launch) (g : ot_G) (ln : Nat) (ext : ot_L) (μ : ot_M) (op arg lw lf lt : Int → Int) (t q : Int) (hG : gPin (μ 1 11) (μ 1 12) (μ 2) (μ 3)) (hW : gWnd (μ 1 12) (μ 8) (μ 7)) (hCl : gClo (μ 1 11) (μ 2) (μ 3) (μ 8) (μ 7) (μ 6) (μ 34) (μ 35)) (hs : gShd (μ 6)) (hL : gLaw (μ 13) (μ 14) (μ 15) (μ 12 4) op arg lw lf lt) (ht : 0 ≤ t ∧ t < 3) (hq : 0 ≤ q ∧ q < μ 1 12) : ot_C l g yX1_mayGo cX1_mayGo 4 (some .boolean) 3 0 0 [.inr 33, .inl t, .inl q] (LL ln ext) μ (ot_pi (fun r L2 μ2 => L2 = LL ln ext ∧ r = mayS op arg lw lf lt (μ 12 4) (μ 2) (μ 3) (μ 8) (μ 7) (μ 6) t q ∧ ∃ f S, μ2 = ot_uc (ot_uc μ 36 f) 16 S)) := by
  refine ot_enter (by decide) (Nat.le_of_ble_eq_true rfl) ?_
  intro p e s m args below meth c X hr
  have hNn := hG.2.1
  have hWt := hW t ht.1 ht.2
  have hm := hL.1
  have hst := hs t ht.1 ht.2
  have hid : μ = ot_uc (ot_uc μ 36 (μ 36)) 16 (μ 16) := by rw [ot_uc_self, ot_uc_self]
  refine tt_aload_n X rfl dX1_mayGo_0 ?_
  refine tt_getr X fX1_25 (k_33 _ _) (by decide) ⟨nofun, nofun⟩ rfl dX1_mayGo_1 ?_
  refine tt_iload_n X rfl dX1_mayGo_4 ?_
  refine tt_vi X rfl mX1_81 (c_lastPin l g ln ext _ _ (by first | omega | (simp (disch := decide) only [ot_rd, ot_rs, ot_rf, ot_ucd, ot_ucs]; omega)) (by first | omega | (simp (disch := decide) only [ot_rd, ot_rs, ot_rf, ot_ucd, ot_ucs]; omega))) (k_1 _ _) ⟨_, rfl, rfl⟩ rfl rfl (Nat.le_of_ble_eq_true rfl) (by decide) (by decide) (by decide) dX1_mayGo_5 (fun z5 L5 μ5 hp => ?_)
  obtain ⟨rfl, e5, hz5⟩ := hp
  replace e5 := e5.symm
  subst e5
  refine tt_istore_n X dX1_mayGo_8 (by decide) ?_
  have hfr : z5 = -1 ∧ μ 8 t = 0 ∨ (z5 = μ 7 (120 * t + (μ 8 t - 1)) ∧ 1 ≤ μ 8 t ∧ 0 ≤ z5 ∧ z5 < μ 1 12) := by
    by_cases w : 1 ≤ μ 8 t
    · right
      have h2 := hWt.2.1 (μ 8 t - 1) (by omega) (by omega)
      rw [if_pos w, show t * 120 + (μ 8 t - 1) = 120 * t + (μ 8 t - 1) by omega] at hz5
      rw [hz5]; exact ⟨rfl, w, h2⟩
    · left
      rw [if_neg w] at hz5; exact ⟨hz5, by omega⟩
  refine tt_iload_n X rfl dX1_mayGo_9 ?_
  refine tt_iload_n X rfl dX1_mayGo_10 ?_
  refine tt_icmp_eq X 25 (by first | omega | (simp (disch := decide) only [ot_rd, ot_rs, ot_rf, ot_ucd, ot_ucs]; omega)) dX1_mayGo_11 (by decide) (fun b11 => ?_) (fun b11 => ?_)
  · refine tt_iconst X dX1_mayGo_25 ?_
    refine tt_zret X ⟨hr.1, hr.2.1⟩ (by omega) (by decide) (by decide) dX1_mayGo_26 ?_
    refine ⟨rfl, ?_, μ 36, μ 16, hid⟩
    unfold mayS
    rw [if_neg]
    rintro ⟨w1, w2⟩
    omega
  · refine tt_aload_n X rfl dX1_mayGo_14 ?_
    refine tt_getr X fX1_25 (k_33 _ _) (by decide) ⟨nofun, nofun⟩ rfl dX1_mayGo_15 ?_
    refine tt_iload_n X rfl dX1_mayGo_18 ?_
    refine tt_vi X rfl mX1_77 (c_isFull l g ln ext _ _ (by first | omega | (simp (disch := decide) only [ot_rd, ot_rs, ot_rf, ot_ucd, ot_ucs]; omega)) (by first | omega | (simp (disch := decide) only [ot_rd, ot_rs, ot_rf, ot_ucd, ot_ucs]; omega))) (k_1 _ _) ⟨_, rfl, rfl⟩ rfl rfl (Nat.le_of_ble_eq_true rfl) (by decide) (by decide) (by decide) dX1_mayGo_19 (fun z19 L19 μ19 hp => ?_)
    obtain ⟨rfl, e19, hz19⟩ := hp
    replace e19 := e19.symm
    subst e19
    refine tt_if_eq X 27 (by first | omega | (simp (disch := decide) only [ot_rd, ot_rs, ot_rf, ot_ucd, ot_ucs]; omega)) dX1_mayGo_22 (by decide) (fun b22 => ?_) (fun b22 => ?_)
    · refine tt_iload_n X rfl dX1_mayGo_27 ?_
      refine tt_iconst X dX1_mayGo_28 ?_
      refine tt_icmp_eq X 45 (by first | omega | (simp (disch := decide) only [ot_rd, ot_rs, ot_rf, ot_ucd, ot_ucs]; omega)) dX1_mayGo_29 (by decide) (fun b29 => ?_) (fun b29 => ?_)
      · refine tt_iconst X dX1_mayGo_45 ?_
        refine tt_zret X ⟨hr.1, hr.2.1⟩ (by omega) (by decide) (by decide) dX1_mayGo_46 ?_
        refine ⟨rfl, ?_, μ 36, μ 16, hid⟩
        unfold mayS
        rw [if_pos (by omega)]
        split
        · rfl
        · rw [show (μ 12 4).toNat = 0 by omega]; rfl
      · refine tt_aload_n X rfl dX1_mayGo_32 ?_
        refine tt_getr X fX1_25 (k_33 _ _) (by decide) ⟨nofun, nofun⟩ rfl dX1_mayGo_33 ?_
        refine tt_getr X fX1_92 (k_1 _ _) (by decide) ⟨nofun, nofun⟩ rfl dX1_mayGo_36 ?_
        refine tt_geti X fX1_96 (k_12 _ _) (by decide) (Or.inl rfl) dX1_mayGo_39 ?_
        try simp (disch := decide) only [ot_rd, ot_rs, ot_rf, ot_ucd, ot_ucs]
        refine tt_if_ne X 47 (by first | omega | (simp (disch := decide) only [ot_rd, ot_rs, ot_rf, ot_ucd, ot_ucs]; omega)) dX1_mayGo_42 (by decide) (fun b42 => ?_) (fun b42 => ?_)
        · have hz5e : z5 = μ 7 (120 * t + (μ 8 t - 1)) := by omega
          have hp1 := gPin_at hG (a := z5) (by omega) (by omega)
          have hp2 := gPin_at hG hq.1 hq.2
          have hch := chN_in (a := z5) (b := q) (by omega) (by omega) (by omega)
          refine tt_aload_n X rfl dX1_mayGo_47 ?_
          refine tt_getr X fX1_22 (k_33 _ _) (by decide) ⟨nofun, nofun⟩ rfl dX1_mayGo_48 ?_
          refine tt_iconst X dX1_mayGo_51 ?_
          refine tt_iload_n X rfl dX1_mayGo_52 ?_
          refine tt_iastore X (k_36 _ _) (by first | omega | (simp (disch := decide) only [ot_rd, ot_rs, ot_rf, ot_ucd, ot_ucs]; omega)) dX1_mayGo_53 ?_
          refine tt_aload_n X rfl dX1_mayGo_54 ?_
          refine tt_getr X fX1_22 (k_33 _ _) (by decide) ⟨nofun, nofun⟩ rfl dX1_mayGo_55 ?_
          refine tt_iconst X dX1_mayGo_58 ?_
          refine tt_iload_n X rfl dX1_mayGo_59 ?_
          refine tt_iastore X (k_36 _ _) (by first | omega | (simp (disch := decide) only [ot_rd, ot_rs, ot_rf, ot_ucd, ot_ucs]; omega)) dX1_mayGo_60 ?_
          refine tt_aload_n X rfl dX1_mayGo_61 ?_
          refine tt_getr X fX1_22 (k_33 _ _) (by decide) ⟨nofun, nofun⟩ rfl dX1_mayGo_62 ?_
          refine tt_iconst X dX1_mayGo_65 ?_
          refine tt_aload_n X rfl dX1_mayGo_66 ?_
          refine tt_getr X fX1_25 (k_33 _ _) (by decide) ⟨nofun, nofun⟩ rfl dX1_mayGo_67 ?_
          refine tt_iload_n X rfl dX1_mayGo_70 ?_
          refine tt_iload_n X rfl dX1_mayGo_71 ?_
          refine tt_vi X rfl mX1_100 (c_lengthOf l g ln ext _ _ _ (by omega) (by omega) (by simp (disch := decide) only [ot_ucd, ot_ucs, ot_rd, ot_rs, ot_rf, ot_rdf]; omega)) (k_1 _ _) ⟨_, rfl, rfl⟩ rfl rfl (Nat.le_of_ble_eq_true rfl) (by decide) (by decide) (by decide) dX1_mayGo_72 (fun z72 L72 μ72 hp => ?_)
          obtain ⟨rfl, e72, hz72⟩ := hp
          replace e72 := e72.symm
          subst e72
          refine tt_iastore X (k_36 _ _) (by first | omega | (simp (disch := decide) only [ot_rd, ot_rs, ot_rf, ot_ucd, ot_ucs]; omega)) dX1_mayGo_75 ?_
          refine tt_aload_n X rfl dX1_mayGo_76 ?_
          refine tt_getr X fX1_22 (k_33 _ _) (by decide) ⟨nofun, nofun⟩ rfl dX1_mayGo_77 ?_
          refine tt_iconst X dX1_mayGo_80 ?_
          refine tt_aload_n X rfl dX1_mayGo_81 ?_
          refine tt_getr X fX1_17 (k_33 _ _) (by decide) ⟨nofun, nofun⟩ rfl dX1_mayGo_82 ?_
          refine tt_iload_n X rfl dX1_mayGo_85 ?_
          refine tt_iload_n X rfl dX1_mayGo_86 ?_
          refine tt_si X rfl mX1_103 (c_numberOf l g ln ext _ _ _ (by omega) (by omega)) rfl rfl (Nat.le_of_ble_eq_true rfl) (by decide) (by decide) (by decide) dX1_mayGo_87 (fun z87 L87 μ87 hp => ?_)
          obtain ⟨rfl, e87, hz87⟩ := hp
          replace e87 := e87.symm
          subst e87
          refine tt_iaload X (k_35 _ _) (by first | omega | (simp (disch := decide) only [ot_rd, ot_rs, ot_rf, ot_ucd, ot_ucs]; omega)) dX1_mayGo_90 ?_
          try simp (disch := decide) only [ot_rd, ot_rs, ot_rf, ot_ucd, ot_ucs]
          refine tt_iastore X (k_36 _ _) (by first | omega | (simp (disch := decide) only [ot_rd, ot_rs, ot_rf, ot_ucd, ot_ucs]; omega)) dX1_mayGo_91 ?_
          refine tt_aload_n X rfl dX1_mayGo_92 ?_
          refine tt_getr X fX1_22 (k_33 _ _) (by decide) ⟨nofun, nofun⟩ rfl dX1_mayGo_93 ?_
          refine tt_iconst X dX1_mayGo_96 ?_
          refine tt_iload_n X rfl dX1_mayGo_97 ?_
          refine tt_iastore X (k_36 _ _) (by first | omega | (simp (disch := decide) only [ot_rd, ot_rs, ot_rf, ot_ucd, ot_ucs]; omega)) dX1_mayGo_98 ?_
          refine tt_aload_n X rfl dX1_mayGo_99 ?_
          refine tt_getr X fX1_22 (k_33 _ _) (by decide) ⟨nofun, nofun⟩ rfl dX1_mayGo_100 ?_
          refine tt_iconst X dX1_mayGo_103 ?_
          refine tt_aload_n X rfl dX1_mayGo_104 ?_
          refine tt_getr X fX1_25 (k_33 _ _) (by decide) ⟨nofun, nofun⟩ rfl dX1_mayGo_105 ?_
          refine tt_getr X fX1_48 (k_1 _ _) (by decide) ⟨nofun, nofun⟩ rfl dX1_mayGo_108 ?_
          refine tt_iload_n X rfl dX1_mayGo_111 ?_
          refine tt_iaload X (k_8 _ _) (by first | omega | (simp (disch := decide) only [ot_rd, ot_rs, ot_rf, ot_ucd, ot_ucs]; omega)) dX1_mayGo_112 ?_
          try simp (disch := decide) only [ot_rd, ot_rs, ot_rf, ot_ucd, ot_ucs]
          refine tt_iastore X (k_36 _ _) (by first | omega | (simp (disch := decide) only [ot_rd, ot_rs, ot_rf, ot_ucd, ot_ucs]; omega)) dX1_mayGo_113 ?_
          refine tt_aload_n X rfl dX1_mayGo_114 ?_
          refine tt_getr X fX1_22 (k_33 _ _) (by decide) ⟨nofun, nofun⟩ rfl dX1_mayGo_115 ?_
          refine tt_bipush X (by decide) dX1_mayGo_118 ?_
          refine tt_aload_n X rfl dX1_mayGo_120 ?_
          refine tt_getr X fX1_25 (k_33 _ _) (by decide) ⟨nofun, nofun⟩ rfl dX1_mayGo_121 ?_
          refine tt_iload_n X rfl dX1_mayGo_124 ?_
          refine tt_iconst X dX1_mayGo_125 ?_
          refine tt_vi X rfl mX1_84 (c_pinFromEnd l g ln ext _ _ _ (by omega) (by omega) (by simp (disch := decide) only [ot_ucd, ot_ucs, ot_rd, ot_rs, ot_rf, ot_rdf]; omega)) (k_1 _ _) ⟨_, rfl, rfl⟩ rfl rfl (Nat.le_of_ble_eq_true rfl) (by decide) (by decide) (by decide) dX1_mayGo_126 (fun z126 L126 μ126 hp => ?_)
          obtain ⟨rfl, e126, hz126⟩ := hp
          replace e126 := e126.symm
          subst e126
          have hz126b : -1 ≤ z126 ∧ z126 ≤ 24 := by
            simp (disch := decide) only [ot_ucd, ot_ucs, ot_rd, ot_rs, ot_rf, ot_rdf] at hz126
            by_cases w : 2 ≤ μ 8 t
            · have h2 := hWt.2.1 (μ 8 t - 2) (by omega) (by omega)
              rw [if_pos w, show t * 120 + (μ 8 t - 2) = 120 * t + (μ 8 t - 2) by omega] at hz126
              omega
            · rw [if_neg w] at hz126; omega
          refine tt_iload_n X rfl dX1_mayGo_129 ?_
          refine tt_icmp_ne X 137 (by first | omega | (simp (disch := decide) only [ot_rd, ot_rs, ot_rf, ot_ucd, ot_ucs]; omega)) dX1_mayGo_130 (by decide) (fun b130 => ?_) (fun b130 => ?_)
          · refine tt_iconst X dX1_mayGo_137 ?_
            refine tt_iastore X (k_36 _ _) (by first | omega | (simp (disch := decide) only [ot_rd, ot_rs, ot_rf, ot_ucd, ot_ucs]; omega)) dX1_mayGo_138 ?_
            refine tt_aload_n X rfl dX1_mayGo_139 ?_
            refine tt_getr X fX1_22 (k_33 _ _) (by decide) ⟨nofun, nofun⟩ rfl dX1_mayGo_140 ?_
            refine tt_bipush X (by decide) dX1_mayGo_143 ?_
            refine tt_aload_n X rfl dX1_mayGo_145 ?_
            refine tt_getr X fX1_25 (k_33 _ _) (by decide) ⟨nofun, nofun⟩ rfl dX1_mayGo_146 ?_
            refine tt_getr X fX1_64 (k_1 _ _) (by decide) ⟨nofun, nofun⟩ rfl dX1_mayGo_149 ?_
            refine tt_iload_n X rfl dX1_mayGo_152 ?_
            refine tt_iaload X (k_6 _ _) (by first | omega | (simp (disch := decide) only [ot_rd, ot_rs, ot_rf, ot_ucd, ot_ucs]; omega)) dX1_mayGo_153 ?_
            try simp (disch := decide) only [ot_rd, ot_rs, ot_rf, ot_ucd, ot_ucs]
            refine tt_iastore X (k_36 _ _) (by first | omega | (simp (disch := decide) only [ot_rd, ot_rs, ot_rf, ot_ucd, ot_ucs]; omega)) dX1_mayGo_154 ?_
            refine tt_aload_n X rfl dX1_mayGo_155 ?_
            refine tt_getr X fX1_25 (k_33 _ _) (by decide) ⟨nofun, nofun⟩ rfl dX1_mayGo_156 ?_
            refine tt_getr X fX1_92 (k_1 _ _) (by decide) ⟨nofun, nofun⟩ rfl dX1_mayGo_159 ?_
            refine tt_aload_n X rfl dX1_mayGo_162 ?_
            refine tt_getr X fX1_22 (k_33 _ _) (by decide) ⟨nofun, nofun⟩ rfl dX1_mayGo_163 ?_
            refine tt_vi X rfl mX1_106 (c_allows l g ln ext _ op arg lw lf lt (fcV (μ 2) (μ 3) (μ 8) (μ 7) (μ 6) t q) (by simp (disch := decide) only [ot_ucd, ot_ucs, ot_rd, ot_rs, ot_rf, ot_rdf]; exact hL) (fun j j1 j2 => (by
                rcases (show j = 0 ∨ j = 1 ∨ j = 2 ∨ j = 3 ∨ j = 4 ∨ j = 5 ∨ j = 6 ∨ j = 7 by omega) with rfl | rfl | rfl | rfl | rfl | rfl | rfl | rfl
                · simp (disch := decide) only [ot_rd, ot_rs, ot_rf]; exact hz5e
                · simp (disch := decide) only [ot_rd, ot_rs, ot_rf]; rfl
                · simp (disch := decide) only [ot_rd, ot_rs, ot_rf]
                  simp (disch := decide) only [ot_rd, ot_rs, ot_rf] at hz72
                  rw [hz72, hz5e]; rfl
                · simp (disch := decide) only [ot_rd, ot_rs, ot_rf]
                  rw [hz87, hCl.2 _ hch.1 hch.2, usd_usC hNn.2 hW (by omega) (by omega) (by omega), hz5e]; rfl
                · simp (disch := decide) only [ot_rd, ot_rs, ot_rf]; rfl
                · simp (disch := decide) only [ot_rd, ot_rs, ot_rf]; rfl
                · simp (disch := decide) only [ot_rd, ot_rs, ot_rf]
                  simp (disch := decide) only [ot_rd, ot_rs, ot_rf] at hz126
                  show _ = if 1 < μ 8 t ∧ μ 7 (120 * t + (μ 8 t - 2)) = q then (1 : Int) else 0
                  by_cases w : 2 ≤ μ 8 t
                  · rw [if_pos w, show t * 120 + (μ 8 t - 2) = 120 * t + (μ 8 t - 2) by omega] at hz126
                    first | rw [if_pos (by omega)] | rw [if_neg (by omega)]
                  · rw [if_neg w] at hz126
                    first | rw [if_pos (by omega)] | rw [if_neg (by omega)]
                · simp (disch := decide) only [ot_rd, ot_rs, ot_rf]; rfl)) (fcV_rng hG hW hs ht hq (by omega))) (k_12 _ _) ⟨_, rfl, rfl⟩ rfl rfl (Nat.le_of_ble_eq_true rfl) (by decide) (by decide) (by decide) dX1_mayGo_166 (fun z166 L166 μ166 hp => ?_)
            obtain ⟨rfl, hz166, S2, rfl⟩ := hp
            simp (disch := decide) only [ot_ucd, ot_ucs, ot_rd, ot_rs, ot_rf, ot_rdf] at hz166
            have hzb := lawS_bool (op := op) (arg := arg) (fct := fcV (μ 2) (μ 3) (μ 8) (μ 7) (μ 6) t q) (lw := lw) (lf := lf) (lt := lt) (m := (μ 12 4).toNat) (μ 12 4).toNat
            rw [← hz166] at hzb
            refine tt_zret X ⟨hr.1, hr.2.1⟩ (by omega) (by decide) (by decide) dX1_mayGo_169 ?_
            refine ⟨rfl, ?_, ?_⟩
            · unfold mayS
              rw [if_pos (by omega), if_neg (by omega)]; exact hz166
            · rw [ot_up_uc (μ := μ)]
              simp only [ot_uc_up1]
              exact ⟨_, _, rfl⟩
          · refine tt_iconst X dX1_mayGo_133 ?_
            refine tt_goto X 138 dX1_mayGo_134 (by decide) ?_
            refine tt_iastore X (k_36 _ _) (by first | omega | (simp (disch := decide) only [ot_rd, ot_rs, ot_rf, ot_ucd, ot_ucs]; omega)) dX1_mayGo_138 ?_
            refine tt_aload_n X rfl dX1_mayGo_139 ?_
            refine tt_getr X fX1_22 (k_33 _ _) (by decide) ⟨nofun, nofun⟩ rfl dX1_mayGo_140 ?_
            refine tt_bipush X (by decide) dX1_mayGo_143 ?_
            refine tt_aload_n X rfl dX1_mayGo_145 ?_
            refine tt_getr X fX1_25 (k_33 _ _) (by decide) ⟨nofun, nofun⟩ rfl dX1_mayGo_146 ?_
            refine tt_getr X fX1_64 (k_1 _ _) (by decide) ⟨nofun, nofun⟩ rfl dX1_mayGo_149 ?_
            refine tt_iload_n X rfl dX1_mayGo_152 ?_
            refine tt_iaload X (k_6 _ _) (by first | omega | (simp (disch := decide) only [ot_rd, ot_rs, ot_rf, ot_ucd, ot_ucs]; omega)) dX1_mayGo_153 ?_
            try simp (disch := decide) only [ot_rd, ot_rs, ot_rf, ot_ucd, ot_ucs]
            refine tt_iastore X (k_36 _ _) (by first | omega | (simp (disch := decide) only [ot_rd, ot_rs, ot_rf, ot_ucd, ot_ucs]; omega)) dX1_mayGo_154 ?_
            refine tt_aload_n X rfl dX1_mayGo_155 ?_
            refine tt_getr X fX1_25 (k_33 _ _) (by decide) ⟨nofun, nofun⟩ rfl dX1_mayGo_156 ?_
            refine tt_getr X fX1_92 (k_1 _ _) (by decide) ⟨nofun, nofun⟩ rfl dX1_mayGo_159 ?_
            refine tt_aload_n X rfl dX1_mayGo_162 ?_
            refine tt_getr X fX1_22 (k_33 _ _) (by decide) ⟨nofun, nofun⟩ rfl dX1_mayGo_163 ?_
            refine tt_vi X rfl mX1_106 (c_allows l g ln ext _ op arg lw lf lt (fcV (μ 2) (μ 3) (μ 8) (μ 7) (μ 6) t q) (by simp (disch := decide) only [ot_ucd, ot_ucs, ot_rd, ot_rs, ot_rf, ot_rdf]; exact hL) (fun j j1 j2 => (by
                rcases (show j = 0 ∨ j = 1 ∨ j = 2 ∨ j = 3 ∨ j = 4 ∨ j = 5 ∨ j = 6 ∨ j = 7 by omega) with rfl | rfl | rfl | rfl | rfl | rfl | rfl | rfl
                · simp (disch := decide) only [ot_rd, ot_rs, ot_rf]; exact hz5e
                · simp (disch := decide) only [ot_rd, ot_rs, ot_rf]; rfl
                · simp (disch := decide) only [ot_rd, ot_rs, ot_rf]
                  simp (disch := decide) only [ot_rd, ot_rs, ot_rf] at hz72
                  rw [hz72, hz5e]; rfl
                · simp (disch := decide) only [ot_rd, ot_rs, ot_rf]
                  rw [hz87, hCl.2 _ hch.1 hch.2, usd_usC hNn.2 hW (by omega) (by omega) (by omega), hz5e]; rfl
                · simp (disch := decide) only [ot_rd, ot_rs, ot_rf]; rfl
                · simp (disch := decide) only [ot_rd, ot_rs, ot_rf]; rfl
                · simp (disch := decide) only [ot_rd, ot_rs, ot_rf]
                  simp (disch := decide) only [ot_rd, ot_rs, ot_rf] at hz126
                  show _ = if 1 < μ 8 t ∧ μ 7 (120 * t + (μ 8 t - 2)) = q then (1 : Int) else 0
                  by_cases w : 2 ≤ μ 8 t
                  · rw [if_pos w, show t * 120 + (μ 8 t - 2) = 120 * t + (μ 8 t - 2) by omega] at hz126
                    first | rw [if_pos (by omega)] | rw [if_neg (by omega)]
                  · rw [if_neg w] at hz126
                    first | rw [if_pos (by omega)] | rw [if_neg (by omega)]
                · simp (disch := decide) only [ot_rd, ot_rs, ot_rf]; rfl)) (fcV_rng hG hW hs ht hq (by omega))) (k_12 _ _) ⟨_, rfl, rfl⟩ rfl rfl (Nat.le_of_ble_eq_true rfl) (by decide) (by decide) (by decide) dX1_mayGo_166 (fun z166 L166 μ166 hp => ?_)
            obtain ⟨rfl, hz166, S2, rfl⟩ := hp
            simp (disch := decide) only [ot_ucd, ot_ucs, ot_rd, ot_rs, ot_rf, ot_rdf] at hz166
            have hzb := lawS_bool (op := op) (arg := arg) (fct := fcV (μ 2) (μ 3) (μ 8) (μ 7) (μ 6) t q) (lw := lw) (lf := lf) (lt := lt) (m := (μ 12 4).toNat) (μ 12 4).toNat
            rw [← hz166] at hzb
            refine tt_zret X ⟨hr.1, hr.2.1⟩ (by omega) (by decide) (by decide) dX1_mayGo_169 ?_
            refine ⟨rfl, ?_, ?_⟩
            · unfold mayS
              rw [if_pos (by omega), if_neg (by omega)]; exact hz166
            · rw [ot_up_uc (μ := μ)]
              simp only [ot_uc_up1]
              exact ⟨_, _, rfl⟩
        · refine tt_iconst X dX1_mayGo_45 ?_
          refine tt_zret X ⟨hr.1, hr.2.1⟩ (by omega) (by decide) (by decide) dX1_mayGo_46 ?_
          refine ⟨rfl, ?_, μ 36, μ 16, hid⟩
          unfold mayS
          rw [if_pos (by omega)]
          split
          · rfl
          · rw [show (μ 12 4).toNat = 0 by omega]; rfl
    · refine tt_iconst X dX1_mayGo_25 ?_
      refine tt_zret X ⟨hr.1, hr.2.1⟩ (by omega) (by decide) (by decide) dX1_mayGo_26 ?_
      refine ⟨rfl, ?_, μ 36, μ 16, hid⟩
      unfold mayS
      rw [if_neg]
      rintro ⟨w1, w2⟩
      omega

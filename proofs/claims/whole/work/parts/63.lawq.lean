/-- the law of the reference is sound -/
def gLawQ (m : Int) (op arg lw lf lt : Int → Int) : Prop := (0 ≤ m ∧ m ≤ 16) ∧ ∀ l, 0 ≤ l → l < m → sOk op arg (lf l) (lt l) ∧ (lw l = 0 ∨ lw l = 1)
theorem gLaw_Q {cd en vd op arg lw lf lt : Int → Int} {m : Int} (h : gLaw cd en vd m op arg lw lf lt) : gLawQ m op arg lw lf lt := ⟨h.1, fun l l1 l2 => ⟨(h.2 l l1 l2).2.1, (h.2 l l1 l2).2.2.2.2.1⟩⟩
set_option maxRecDepth 100000 in
set_option maxHeartbeats 1000000 in
theorem q_twoOf (l : Launch) (g : ot_G) (ln : Nat) (ext : ot_L) (μ : ot_M) (o x y : Int) (hx : -2147483648 ≤ x ∧ x ≤ 2147483647) (hy : -2147483648 ≤ y ∧ y ≤ 2147483647)(ho : 2 ≤ o ∧ o ≤ 11 ∧ o ≠ 9) (h5 : o = 5 → 1 ≤ y ∧ y ≤ 9999) (hb : o = 10 ∨ o = 11 → (x = 0 ∨ x = 1) ∧ (y = 0 ∨ y = 1)) : ot_C l g yX10_twoOf cX10_twoOf 4 (some .int) 0 0 0 [.inr 60, .inl o, .inl x, .inl y] (LL ln ext) μ (ot_pi (fun r L2 μ2 => L2 = LL ln ext ∧ μ2 = μ ∧ r = tw o x y)) := by
  refine ot_enter (by decide) (Nat.le_of_ble_eq_true rfl) ?_
  intro p e s m args below meth c X hr
  refine tt_iload_n X rfl dX10_twoOf_0 ?_
  refine tt_iconst X dX10_twoOf_1 ?_
  refine tt_icmp_ne X 9 (by omega) dX10_twoOf_2 (by decide) (fun b2 => ?_) (fun b2 => ?_)
  · refine tt_iload_n X rfl dX10_twoOf_9 ?_
    refine tt_iconst X dX10_twoOf_10 ?_
    refine tt_icmp_ne X 18 (by omega) dX10_twoOf_11 (by decide) (fun b11 => ?_) (fun b11 => ?_)
    · refine tt_iload_n X rfl dX10_twoOf_18 ?_
      refine tt_iconst X dX10_twoOf_19 ?_
      refine tt_icmp_ne X 27 (by omega) dX10_twoOf_20 (by decide) (fun b20 => ?_) (fun b20 => ?_)
      · refine tt_iload_n X rfl dX10_twoOf_27 ?_
        refine tt_iconst X dX10_twoOf_28 ?_
        refine tt_icmp_ne X 36 (by omega) dX10_twoOf_29 (by decide) (fun b29 => ?_) (fun b29 => ?_)
        · refine tt_iload_n X rfl dX10_twoOf_36 ?_
          refine tt_bipush X (by decide) dX10_twoOf_37 ?_
          refine tt_icmp_ne X 53 (by omega) dX10_twoOf_39 (by decide) (fun b39 => ?_) (fun b39 => ?_)
          · refine tt_iload_n X rfl dX10_twoOf_53 ?_
            refine tt_bipush X (by decide) dX10_twoOf_54 ?_
            refine tt_icmp_ne X 70 (by omega) dX10_twoOf_56 (by decide) (fun b56 => ?_) (fun b56 => ?_)
            · refine tt_iload_n X rfl dX10_twoOf_70 ?_
              refine tt_bipush X (by decide) dX10_twoOf_71 ?_
              refine tt_icmp_ne X 87 (by omega) dX10_twoOf_73 (by decide) (fun b73 => ?_) (fun b73 => ?_)
              · refine tt_iload_n X rfl dX10_twoOf_87 ?_
                refine tt_bipush X (by decide) dX10_twoOf_88 ?_
                refine tt_icmp_ne X 99 (by omega) dX10_twoOf_90 (by decide) (fun b90 => ?_) (fun b90 => ?_)
                · have hb2 := hb (by omega)
                  refine tt_iload_n X rfl dX10_twoOf_99 ?_
                  refine tt_iload_n X rfl dX10_twoOf_100 ?_
                  refine tt_iadd X dX10_twoOf_101 ?_
                  refine tt_if_le X 109 (by omega) dX10_twoOf_102 (by decide) (fun b102 => ?_) (fun b102 => ?_)
                  · refine tt_iconst X dX10_twoOf_109 ?_
                    refine tt_iret X ⟨hr.1, hr.2.1⟩ (by decide) (by decide) dX10_twoOf_110 ?_
                    first
                      | (have ho : o = 10 := by omega
                         subst ho
                         exact ⟨rfl, rfl, mul_b hb2.1 hb2.2⟩)
                      | (have ho : o = 11 := by omega
                         subst ho
                         refine ⟨rfl, rfl, ?_⟩
                         show _ = if x = 1 ∨ y = 1 then (1 : Int) else 0
                         first | (rw [if_pos (by omega)]; done) | rw [if_neg (by omega)])
                  · refine tt_iconst X dX10_twoOf_105 ?_
                    refine tt_goto X 110 dX10_twoOf_106 (by decide) ?_
                    refine tt_iret X ⟨hr.1, hr.2.1⟩ (by decide) (by decide) dX10_twoOf_110 ?_
                    first
                      | (have ho : o = 10 := by omega
                         subst ho
                         exact ⟨rfl, rfl, mul_b hb2.1 hb2.2⟩)
                      | (have ho : o = 11 := by omega
                         subst ho
                         refine ⟨rfl, rfl, ?_⟩
                         show _ = if x = 1 ∨ y = 1 then (1 : Int) else 0
                         first | (rw [if_pos (by omega)]; done) | rw [if_neg (by omega)])
                · have hb2 := hb (by omega)
                  refine tt_iload_n X rfl dX10_twoOf_93 ?_
                  refine tt_iload_n X rfl dX10_twoOf_94 ?_
                  refine tt_imul X dX10_twoOf_95 ?_
                  refine tt_goto X 110 dX10_twoOf_96 (by decide) ?_
                  refine tt_iret X ⟨hr.1, hr.2.1⟩ (by decide) (by decide) dX10_twoOf_110 ?_
                  first
                    | (have ho : o = 10 := by omega
                       subst ho
                       exact ⟨rfl, rfl, mul_b hb2.1 hb2.2⟩)
                    | (have ho : o = 11 := by omega
                       subst ho
                       refine ⟨rfl, rfl, ?_⟩
                       show _ = if x = 1 ∨ y = 1 then (1 : Int) else 0
                       first | (rw [if_pos (by omega)]; done) | rw [if_neg (by omega)])
              · refine tt_iload_n X rfl dX10_twoOf_76 ?_
                refine tt_iload_n X rfl dX10_twoOf_77 ?_
                refine tt_icmp_le X 85 (by omega) dX10_twoOf_78 (by decide) (fun b78 => ?_) (fun b78 => ?_)
                · refine tt_iconst X dX10_twoOf_85 ?_
                  refine tt_iret X ⟨hr.1, hr.2.1⟩ (by decide) (by decide) dX10_twoOf_86 ?_
                  have ho : o = 8 := by omega
                  subst ho
                  refine ⟨rfl, rfl, ?_⟩
                  show _ = if y < x then (1 : Int) else 0
                  first | (rw [if_pos (by omega)]; done) | rw [if_neg (by omega)]
                · refine tt_iconst X dX10_twoOf_81 ?_
                  refine tt_goto X 86 dX10_twoOf_82 (by decide) ?_
                  refine tt_iret X ⟨hr.1, hr.2.1⟩ (by decide) (by decide) dX10_twoOf_86 ?_
                  have ho : o = 8 := by omega
                  subst ho
                  refine ⟨rfl, rfl, ?_⟩
                  show _ = if y < x then (1 : Int) else 0
                  first | (rw [if_pos (by omega)]; done) | rw [if_neg (by omega)]
            · refine tt_iload_n X rfl dX10_twoOf_59 ?_
              refine tt_iload_n X rfl dX10_twoOf_60 ?_
              refine tt_icmp_ne X 68 (by omega) dX10_twoOf_61 (by decide) (fun b61 => ?_) (fun b61 => ?_)
              · refine tt_iconst X dX10_twoOf_68 ?_
                refine tt_iret X ⟨hr.1, hr.2.1⟩ (by decide) (by decide) dX10_twoOf_69 ?_
                have ho : o = 7 := by omega
                subst ho
                refine ⟨rfl, rfl, ?_⟩
                show _ = if x = y then (1 : Int) else 0
                first | (rw [if_pos (by omega)]; done) | rw [if_neg (by omega)]
              · refine tt_iconst X dX10_twoOf_64 ?_
                refine tt_goto X 69 dX10_twoOf_65 (by decide) ?_
                refine tt_iret X ⟨hr.1, hr.2.1⟩ (by decide) (by decide) dX10_twoOf_69 ?_
                have ho : o = 7 := by omega
                subst ho
                refine ⟨rfl, rfl, ?_⟩
                show _ = if x = y then (1 : Int) else 0
                first | (rw [if_pos (by omega)]; done) | rw [if_neg (by omega)]
          · refine tt_iload_n X rfl dX10_twoOf_42 ?_
            refine tt_iload_n X rfl dX10_twoOf_43 ?_
            refine tt_icmp_ge X 51 (by omega) dX10_twoOf_44 (by decide) (fun b44 => ?_) (fun b44 => ?_)
            · refine tt_iconst X dX10_twoOf_51 ?_
              refine tt_iret X ⟨hr.1, hr.2.1⟩ (by decide) (by decide) dX10_twoOf_52 ?_
              have ho : o = 6 := by omega
              subst ho
              refine ⟨rfl, rfl, ?_⟩
              show _ = if x < y then (1 : Int) else 0
              first | (rw [if_pos (by omega)]; done) | rw [if_neg (by omega)]
            · refine tt_iconst X dX10_twoOf_47 ?_
              refine tt_goto X 52 dX10_twoOf_48 (by decide) ?_
              refine tt_iret X ⟨hr.1, hr.2.1⟩ (by decide) (by decide) dX10_twoOf_52 ?_
              have ho : o = 6 := by omega
              subst ho
              refine ⟨rfl, rfl, ?_⟩
              show _ = if x < y then (1 : Int) else 0
              first | (rw [if_pos (by omega)]; done) | rw [if_neg (by omega)]
        · refine tt_iload_n X rfl dX10_twoOf_32 ?_
          refine tt_iload_n X rfl dX10_twoOf_33 ?_
          refine tt_idiv X (by (have := h5 (by omega); omega)) dX10_twoOf_34 ?_
          refine tt_iret X ⟨hr.1, hr.2.1⟩ (by decide) (by decide) dX10_twoOf_35 ?_
          have ho : o = 5 := by omega
          subst ho
          exact ⟨rfl, rfl, rfl⟩
      · refine tt_iload_n X rfl dX10_twoOf_23 ?_
        refine tt_iload_n X rfl dX10_twoOf_24 ?_
        refine tt_imul X dX10_twoOf_25 ?_
        refine tt_wrap (wI_of _) ?_
        refine tt_iret X ⟨hr.1, hr.2.1⟩ (by decide) (by decide) dX10_twoOf_26 ?_
        have ho : o = 4 := by omega
        subst ho
        exact ⟨rfl, rfl, rfl⟩
    · refine tt_iload_n X rfl dX10_twoOf_14 ?_
      refine tt_iload_n X rfl dX10_twoOf_15 ?_
      refine tt_isub X dX10_twoOf_16 ?_
      refine tt_wrap (wI_of _) ?_
      refine tt_iret X ⟨hr.1, hr.2.1⟩ (by decide) (by decide) dX10_twoOf_17 ?_
      have ho : o = 3 := by omega
      subst ho
      exact ⟨rfl, rfl, rfl⟩
  · refine tt_iload_n X rfl dX10_twoOf_5 ?_
    refine tt_iload_n X rfl dX10_twoOf_6 ?_
    refine tt_iadd X dX10_twoOf_7 ?_
    refine tt_wrap (wI_of _) ?_
    refine tt_iret X ⟨hr.1, hr.2.1⟩ (by decide) (by decide) dX10_twoOf_8 ?_
    have ho : o = 2 := by omega
    subst ho
    exact ⟨rfl, rfl, rfl⟩
set_option maxRecDepth 100000 in
set_option maxHeartbeats 1000000 in
theorem q_isSo (l : Launch) (g : ot_G) (ln : Nat) (ext : ot_L) (μ : ot_M) (fct : Int → Int) (l0 a b : Int) (hl0 : 0 ≤ l0 ∧ l0 < 16) (ha : μ 75 l0 = a) (hb : μ 76 l0 = b) (hs : sOk (μ 77) (μ 78) a b) (hF : ∀ j, 0 ≤ j → j < 8 → μ 80 j = fct j) (hfr : ∀ i, 0 ≤ i → i < 8 → -2147483648 ≤ fct i ∧ fct i ≤ 2147483647)  : ot_C l g yX10_isSo cX10_isSo 5 (some .boolean) 1 0 0 [.inr 60, .inl 0, .inl l0] (LL ln ext) μ (ot_pi (fun r L2 μ2 => L2 = LL ln ext ∧ r = (if hold (μ 77) (μ 78) fct a b then 1 else 0) ∧ ∃ S, μ2 = ot_uc μ 81 S)) := by
  refine ot_enter (by decide) (Nat.le_of_ble_eq_true rfl) ?_
  intro p e s m args below meth c X hr
  have hab := hs.1
  refine tt_aload_n X rfl dX10_isSo_0 ?_
  refine tt_getr X fX10_56 (k_60 _ _) (by decide) ⟨nofun, nofun⟩ rfl dX10_isSo_1 ?_
  refine tt_iload_n X rfl dX10_isSo_4 ?_
  refine tt_iaload X (k_75 _ _) (by omega) dX10_isSo_5 ?_
  refine tt_top ha ?_
  refine tt_aload_n X rfl dX10_isSo_6 ?_
  refine tt_getr X fX10_59 (k_60 _ _) (by decide) ⟨nofun, nofun⟩ rfl dX10_isSo_7 ?_
  refine tt_iload_n X rfl dX10_isSo_10 ?_
  refine tt_iaload X (k_76 _ _) (by omega) dX10_isSo_11 ?_
  refine tt_top hb ?_
  refine tt_icmp_ne X 17 (by omega) dX10_isSo_12 (by decide) (fun b12 => ?_) (fun b12 => ?_)
  · refine tt_iconst X dX10_isSo_17 ?_
    refine tt_istore_n X dX10_isSo_18 (by decide) ?_
    refine tt_sipush X (by decide) dX10_isSo_19 ?_
    refine tt_iload_n X rfl dX10_isSo_22 ?_
    refine tt_imul X dX10_isSo_23 ?_
    refine tt_aload_n X rfl dX10_isSo_24 ?_
    refine tt_getr X fX10_56 (k_60 _ _) (by decide) ⟨nofun, nofun⟩ rfl dX10_isSo_25 ?_
    refine tt_iload_n X rfl dX10_isSo_28 ?_
    refine tt_iaload X (k_75 _ _) (by omega) dX10_isSo_29 ?_
    refine tt_top ha ?_
    refine tt_iadd X dX10_isSo_30 ?_
    refine tt_top (show 400 * 0 + a = a by omega) ?_
    refine tt_istore X dX10_isSo_31 (by decide) ?_
    refine tt_mem (μ' := ot_uc μ 81 (μ 81)) ot_uc_self.symm ?_
    refine tt_loc [(0, _), (1, _), (2, _), (3, _), (4, _)] ⟨rfl, rfl, rfl, rfl, rfl, trivial⟩ ?_
    refine tt_loop (α := Int × Int × (Int → Int)) (fun ((i, h, S)) => (b - i).toNat) (fun ((i, h, S)) => (a ≤ i ∧ i ≤ b) ∧ stk S (evl (μ 77) (μ 78) fct a (i - a).toNat) ∧ h = ((evl (μ 77) (μ 78) fct a (i - a).toNat).length : Int)) (fun ((i, h, S)) => ot_uc μ 81 S) (fun ((i, h, S)) => [(0, .inr 60), (1, .inl 0), (2, .inl l0), (3, .inl h), (4, .inl i)]) (a, 0, μ 81) ⟨by show a ≤ a ∧ a ≤ b; omega, by rw [evl_zero (μ 77) (μ 78) fct rfl]; trivial, by rw [evl_zero (μ 77) (μ 78) fct rfl]; rfl⟩ ?_
    intro a hI ih
    obtain ⟨i, h, S⟩ := a
    try dsimp only at hI ih ⊢
    replace hI : (a ≤ i ∧ i ≤ b) ∧ stk S (evl (μ 77) (μ 78) fct a (i - a).toNat) ∧ h = ((evl (μ 77) (μ 78) fct a (i - a).toNat).length : Int) := hI
    have hi := hI.1
    refine tt_iload X rfl dX10_isSo_33 ?_
    refine tt_sipush X (by decide) dX10_isSo_35 ?_
    refine tt_iload_n X rfl dX10_isSo_38 ?_
    refine tt_imul X dX10_isSo_39 ?_
    refine tt_aload_n X rfl dX10_isSo_40 ?_
    refine tt_getr X fX10_59 (k_60 _ _) (by decide) ⟨nofun, nofun⟩ rfl dX10_isSo_41 ?_
    refine tt_iload_n X rfl dX10_isSo_44 ?_
    refine tt_iaload X (k_76 _ _) (by first | omega | (simp (disch := decide) only [ot_rd, ot_rs, ot_rf, ot_ucd, ot_ucs]; omega)) dX10_isSo_45 ?_
    try simp (disch := decide) only [ot_rd, ot_rs, ot_rf, ot_ucd, ot_ucs]
    refine tt_top hb ?_
    refine tt_iadd X dX10_isSo_46 ?_
    refine tt_icmp_ge X 192 (by first | omega | (simp (disch := decide) only [ot_rd, ot_rs, ot_rf, ot_ucd, ot_ucs]; omega)) dX10_isSo_47 (by decide) (fun b47 => ?_) (fun b47 => ?_)
    · have h0 : (S 0 = 0 ∨ S 0 = 1) ∧ hold (μ 77) (μ 78) fct a b = decide (S 0 ≠ 0) := by
        obtain ⟨x, hx, hx2⟩ := lw_end hs (by omega) hfr
        have w := hI.2.1
        rw [show i = b by omega, hx] at w
        have w1 : S 0 = x := w.1
        rw [w1]; exact ⟨hx2, hold_end (by omega) hx⟩
      refine tt_aload_n X rfl dX10_isSo_192 ?_
      refine tt_getr X fX10_77 (k_60 _ _) (by decide) ⟨nofun, nofun⟩ rfl dX10_isSo_193 ?_
      refine tt_iconst X dX10_isSo_196 ?_
      refine tt_iaload X (k_81 _ _) (by first | omega | (simp (disch := decide) only [ot_rd, ot_rs, ot_rf, ot_ucd, ot_ucs]; omega)) dX10_isSo_197 ?_
      try simp (disch := decide) only [ot_rd, ot_rs, ot_rf, ot_ucd, ot_ucs]
      refine tt_if_eq X 205 (by first | omega | (simp (disch := decide) only [ot_rd, ot_rs, ot_rf, ot_ucd, ot_ucs]; omega)) dX10_isSo_198 (by decide) (fun b198 => ?_) (fun b198 => ?_)
      · refine tt_iconst X dX10_isSo_205 ?_
        refine tt_zret X ⟨hr.1, hr.2.1⟩ (by omega) (by decide) (by decide) dX10_isSo_206 ?_
        refine ⟨rfl, ?_, S, rfl⟩
        rw [h0.2]
        rcases h0.1 with w | w
        · first | omega | simp [w]
        · first | omega | simp [w]
      · refine tt_iconst X dX10_isSo_201 ?_
        refine tt_goto X 206 dX10_isSo_202 (by decide) ?_
        refine tt_zret X ⟨hr.1, hr.2.1⟩ (by omega) (by decide) (by decide) dX10_isSo_206 ?_
        refine ⟨rfl, ?_, S, rfl⟩
        rw [h0.2]
        rcases h0.1 with w | w
        · first | omega | simp [w]
        · first | omega | simp [w]
    · have hib : a ≤ i ∧ i < b := by omega
      have hD := lw_dis hs hib hfr hI.2.2
      refine tt_aload_n X rfl dX10_isSo_50 ?_
      refine tt_getr X fX10_62 (k_60 _ _) (by decide) ⟨nofun, nofun⟩ rfl dX10_isSo_51 ?_
      refine tt_iload X rfl dX10_isSo_54 ?_
      refine tt_iaload X (k_77 _ _) (by first | omega | (simp (disch := decide) only [ot_rd, ot_rs, ot_rf, ot_ucd, ot_ucs]; omega)) dX10_isSo_56 ?_
      try simp (disch := decide) only [ot_rd, ot_rs, ot_rf, ot_ucd, ot_ucs]
      refine tt_if_eq X 71 (by first | omega | (simp (disch := decide) only [ot_rd, ot_rs, ot_rf, ot_ucd, ot_ucs]; omega)) dX10_isSo_57 (by decide) (fun b57 => ?_) (fun b57 => ?_)
      · refine tt_aload_n X rfl dX10_isSo_71 ?_
        refine tt_getr X fX10_77 (k_60 _ _) (by decide) ⟨nofun, nofun⟩ rfl dX10_isSo_72 ?_
        refine tt_iload_n X rfl dX10_isSo_75 ?_
        refine tt_aload_n X rfl dX10_isSo_76 ?_
        refine tt_getr X fX10_62 (k_60 _ _) (by decide) ⟨nofun, nofun⟩ rfl dX10_isSo_77 ?_
        refine tt_iload X rfl dX10_isSo_80 ?_
        refine tt_iaload X (k_77 _ _) (by first | omega | (simp (disch := decide) only [ot_rd, ot_rs, ot_rf, ot_ucd, ot_ucs]; omega)) dX10_isSo_82 ?_
        try simp (disch := decide) only [ot_rd, ot_rs, ot_rf, ot_ucd, ot_ucs]
        refine tt_if_ne X 96 (by first | omega | (simp (disch := decide) only [ot_rd, ot_rs, ot_rf, ot_ucd, ot_ucs]; omega)) dX10_isSo_83 (by decide) (fun b83 => ?_) (fun b83 => ?_)
        · refine tt_aload_n X rfl dX10_isSo_96 ?_
          refine tt_getr X fX10_74 (k_60 _ _) (by decide) ⟨nofun, nofun⟩ rfl dX10_isSo_97 ?_
          refine tt_aload_n X rfl dX10_isSo_100 ?_
          refine tt_getr X fX10_65 (k_60 _ _) (by decide) ⟨nofun, nofun⟩ rfl dX10_isSo_101 ?_
          refine tt_iload X rfl dX10_isSo_104 ?_
          refine tt_iaload X (k_78 _ _) (by first | omega | (simp (disch := decide) only [ot_rd, ot_rs, ot_rf, ot_ucd, ot_ucs]; omega)) dX10_isSo_106 ?_
          try simp (disch := decide) only [ot_rd, ot_rs, ot_rf, ot_ucd, ot_ucs]
          refine tt_iaload X (k_80 _ _) (by first | omega | (simp (disch := decide) only [ot_rd, ot_rs, ot_rf, ot_ucd, ot_ucs]; omega)) dX10_isSo_107 ?_
          try simp (disch := decide) only [ot_rd, ot_rs, ot_rf, ot_ucd, ot_ucs]
          refine tt_iastore X (k_81 _ _) (by first | omega | (simp (disch := decide) only [ot_rd, ot_rs, ot_rf, ot_ucd, ot_ucs]; omega)) dX10_isSo_108 ?_
          refine tt_iload_n X rfl dX10_isSo_109 ?_
          refine tt_iconst X dX10_isSo_110 ?_
          refine tt_iadd X dX10_isSo_111 ?_
          refine tt_istore_n X dX10_isSo_112 (by decide) ?_
          refine tt_goto X 186 dX10_isSo_113 (by decide) ?_
          refine tt_iinc X dX10_isSo_186 rfl (by decide) ?_
          refine tt_goto X 33 dX10_isSo_189 (by decide) ?_
          refine tt_loc [(0, _), (1, _), (2, _), (3, _), (4, _)] ⟨rfl, rfl, rfl, rfl, rfl, trivial⟩ ?_
          first
            | (exfalso; omega)
            | (have ho : (μ 77) i = 0 := by omega
               have hV2 := evl_step (μ 77) (μ 78) fct hib.1
               rw [ho] at hV2
               replace hV2 : evl (μ 77) (μ 78) fct a (i + 1 - a).toNat = (μ 78) i :: evl (μ 77) (μ 78) fct a (i - a).toNat := hV2
               refine tt_mem (μ' := ot_uc μ 81 (up1 S h ((μ 78) i))) (by first | exact ot_uc_up | (rw [show μ 13 i = (μ 78) i by omega]; exact ot_uc_up)) ?_
               refine ih (i + 1, h + 1, up1 S h ((μ 78) i)) ⟨by show a ≤ i + 1 ∧ i + 1 ≤ b; omega, ?_, ?_⟩ (by show (b - (i + 1)).toNat < (b - i).toNat; omega)
               · show stk _ (evl (μ 77) (μ 78) fct a (i + 1 - a).toNat)
                 rw [hV2]; exact stk_put hI.2.1 hI.2.2
               · show h + 1 = ((evl (μ 77) (μ 78) fct a (i + 1 - a).toNat).length : Int)
                 rw [hV2, List.length_cons]; omega)
            | (have ho : (μ 77) i = 1 := by omega
               have hV2 := evl_step (μ 77) (μ 78) fct hib.1
               rw [ho] at hV2
               replace hV2 : evl (μ 77) (μ 78) fct a (i + 1 - a).toNat = fct ((μ 78) i) :: evl (μ 77) (μ 78) fct a (i - a).toNat := hV2
               refine tt_mem (μ' := ot_uc μ 81 (up1 S h (fct ((μ 78) i)))) (by rw [← hF ((μ 78) i) (by omega) (by omega)]; first | exact ot_uc_up | (rw [show μ 13 i - 10000 = (μ 78) i by omega]; exact ot_uc_up)) ?_
               refine ih (i + 1, h + 1, up1 S h (fct ((μ 78) i))) ⟨by show a ≤ i + 1 ∧ i + 1 ≤ b; omega, ?_, ?_⟩ (by show (b - (i + 1)).toNat < (b - i).toNat; omega)
               · show stk _ (evl (μ 77) (μ 78) fct a (i + 1 - a).toNat)
                 rw [hV2]; exact stk_put hI.2.1 hI.2.2
               · show h + 1 = ((evl (μ 77) (μ 78) fct a (i + 1 - a).toNat).length : Int)
                 rw [hV2, List.length_cons]; omega)
            | (have ho : (μ 77) i = 9 := by omega
               obtain ⟨x, t, hV, hx⟩ := lw_not hs hib hfr ho
               have hV2 := evl_step (μ 77) (μ 78) fct hib.1
               rw [ho, hV] at hV2
               replace hV2 : evl (μ 77) (μ 78) fct a (i + 1 - a).toNat = wI (1 - x) :: t := hV2
               rw [wI_id (by omega) (by omega)] at hV2
               have hst := hI.2.1
               have hhl := hI.2.2
               rw [hV] at hst hhl
               have hT : S (h - 1) = x := stk_top hst hhl
               rw [List.length_cons] at hhl
               refine tt_mem (μ' := ot_uc μ 81 (up1 S (h - 1) (1 - x))) (by rw [hT]; exact ot_uc_up) ?_
               refine ih (i + 1, h, up1 S (h - 1) (1 - x)) ⟨by show a ≤ i + 1 ∧ i + 1 ≤ b; omega, ?_, ?_⟩ (by show (b - (i + 1)).toNat < (b - i).toNat; omega)
               · show stk _ (evl (μ 77) (μ 78) fct a (i + 1 - a).toNat)
                 rw [hV2]; exact stk_put hst.2 (by omega)
               · show h = ((evl (μ 77) (μ 78) fct a (i + 1 - a).toNat).length : Int)
                 rw [hV2, List.length_cons]; omega)
            | (have hV2 := evl_step (μ 77) (μ 78) fct hib.1
               rw [hV, ev1_two (by omega)] at hV2
               refine tt_mem (μ' := ot_uc μ 81 (up1 S (h - 1 - 1) (tw ((μ 77) i) y x))) (by rw [← hjn]; exact ot_uc_up) ?_
               refine ih (i + 1, h - 1, up1 S (h - 1 - 1) (tw ((μ 77) i) y x)) ⟨by show a ≤ i + 1 ∧ i + 1 ≤ b; omega, ?_, ?_⟩ (by show (b - (i + 1)).toNat < (b - i).toNat; omega)
               · show stk _ (evl (μ 77) (μ 78) fct a (i + 1 - a).toNat)
                 rw [hV2]; exact stk_put hst.2.2 (by rw [List.length_cons, List.length_cons] at hhl; omega)
               · show h - 1 = ((evl (μ 77) (μ 78) fct a (i + 1 - a).toNat).length : Int)
                 rw [hV2, List.length_cons]; rw [List.length_cons, List.length_cons] at hhl; omega)
        · refine tt_aload_n X rfl dX10_isSo_86 ?_
          refine tt_getr X fX10_65 (k_60 _ _) (by decide) ⟨nofun, nofun⟩ rfl dX10_isSo_87 ?_
          refine tt_iload X rfl dX10_isSo_90 ?_
          refine tt_iaload X (k_78 _ _) (by first | omega | (simp (disch := decide) only [ot_rd, ot_rs, ot_rf, ot_ucd, ot_ucs]; omega)) dX10_isSo_92 ?_
          try simp (disch := decide) only [ot_rd, ot_rs, ot_rf, ot_ucd, ot_ucs]
          refine tt_goto X 108 dX10_isSo_93 (by decide) ?_
          refine tt_iastore X (k_81 _ _) (by first | omega | (simp (disch := decide) only [ot_rd, ot_rs, ot_rf, ot_ucd, ot_ucs]; omega)) dX10_isSo_108 ?_
          refine tt_iload_n X rfl dX10_isSo_109 ?_
          refine tt_iconst X dX10_isSo_110 ?_
          refine tt_iadd X dX10_isSo_111 ?_
          refine tt_istore_n X dX10_isSo_112 (by decide) ?_
          refine tt_goto X 186 dX10_isSo_113 (by decide) ?_
          refine tt_iinc X dX10_isSo_186 rfl (by decide) ?_
          refine tt_goto X 33 dX10_isSo_189 (by decide) ?_
          refine tt_loc [(0, _), (1, _), (2, _), (3, _), (4, _)] ⟨rfl, rfl, rfl, rfl, rfl, trivial⟩ ?_
          first
            | (exfalso; omega)
            | (have ho : (μ 77) i = 0 := by omega
               have hV2 := evl_step (μ 77) (μ 78) fct hib.1
               rw [ho] at hV2
               replace hV2 : evl (μ 77) (μ 78) fct a (i + 1 - a).toNat = (μ 78) i :: evl (μ 77) (μ 78) fct a (i - a).toNat := hV2
               refine tt_mem (μ' := ot_uc μ 81 (up1 S h ((μ 78) i))) (by first | exact ot_uc_up | (rw [show μ 13 i = (μ 78) i by omega]; exact ot_uc_up)) ?_
               refine ih (i + 1, h + 1, up1 S h ((μ 78) i)) ⟨by show a ≤ i + 1 ∧ i + 1 ≤ b; omega, ?_, ?_⟩ (by show (b - (i + 1)).toNat < (b - i).toNat; omega)
               · show stk _ (evl (μ 77) (μ 78) fct a (i + 1 - a).toNat)
                 rw [hV2]; exact stk_put hI.2.1 hI.2.2
               · show h + 1 = ((evl (μ 77) (μ 78) fct a (i + 1 - a).toNat).length : Int)
                 rw [hV2, List.length_cons]; omega)
            | (have ho : (μ 77) i = 1 := by omega
               have hV2 := evl_step (μ 77) (μ 78) fct hib.1
               rw [ho] at hV2
               replace hV2 : evl (μ 77) (μ 78) fct a (i + 1 - a).toNat = fct ((μ 78) i) :: evl (μ 77) (μ 78) fct a (i - a).toNat := hV2
               refine tt_mem (μ' := ot_uc μ 81 (up1 S h (fct ((μ 78) i)))) (by rw [← hF ((μ 78) i) (by omega) (by omega)]; first | exact ot_uc_up | (rw [show μ 13 i - 10000 = (μ 78) i by omega]; exact ot_uc_up)) ?_
               refine ih (i + 1, h + 1, up1 S h (fct ((μ 78) i))) ⟨by show a ≤ i + 1 ∧ i + 1 ≤ b; omega, ?_, ?_⟩ (by show (b - (i + 1)).toNat < (b - i).toNat; omega)
               · show stk _ (evl (μ 77) (μ 78) fct a (i + 1 - a).toNat)
                 rw [hV2]; exact stk_put hI.2.1 hI.2.2
               · show h + 1 = ((evl (μ 77) (μ 78) fct a (i + 1 - a).toNat).length : Int)
                 rw [hV2, List.length_cons]; omega)
            | (have ho : (μ 77) i = 9 := by omega
               obtain ⟨x, t, hV, hx⟩ := lw_not hs hib hfr ho
               have hV2 := evl_step (μ 77) (μ 78) fct hib.1
               rw [ho, hV] at hV2
               replace hV2 : evl (μ 77) (μ 78) fct a (i + 1 - a).toNat = wI (1 - x) :: t := hV2
               rw [wI_id (by omega) (by omega)] at hV2
               have hst := hI.2.1
               have hhl := hI.2.2
               rw [hV] at hst hhl
               have hT : S (h - 1) = x := stk_top hst hhl
               rw [List.length_cons] at hhl
               refine tt_mem (μ' := ot_uc μ 81 (up1 S (h - 1) (1 - x))) (by rw [hT]; exact ot_uc_up) ?_
               refine ih (i + 1, h, up1 S (h - 1) (1 - x)) ⟨by show a ≤ i + 1 ∧ i + 1 ≤ b; omega, ?_, ?_⟩ (by show (b - (i + 1)).toNat < (b - i).toNat; omega)
               · show stk _ (evl (μ 77) (μ 78) fct a (i + 1 - a).toNat)
                 rw [hV2]; exact stk_put hst.2 (by omega)
               · show h = ((evl (μ 77) (μ 78) fct a (i + 1 - a).toNat).length : Int)
                 rw [hV2, List.length_cons]; omega)
            | (have hV2 := evl_step (μ 77) (μ 78) fct hib.1
               rw [hV, ev1_two (by omega)] at hV2
               refine tt_mem (μ' := ot_uc μ 81 (up1 S (h - 1 - 1) (tw ((μ 77) i) y x))) (by rw [← hjn]; exact ot_uc_up) ?_
               refine ih (i + 1, h - 1, up1 S (h - 1 - 1) (tw ((μ 77) i) y x)) ⟨by show a ≤ i + 1 ∧ i + 1 ≤ b; omega, ?_, ?_⟩ (by show (b - (i + 1)).toNat < (b - i).toNat; omega)
               · show stk _ (evl (μ 77) (μ 78) fct a (i + 1 - a).toNat)
                 rw [hV2]; exact stk_put hst.2.2 (by rw [List.length_cons, List.length_cons] at hhl; omega)
               · show h - 1 = ((evl (μ 77) (μ 78) fct a (i + 1 - a).toNat).length : Int)
                 rw [hV2, List.length_cons]; rw [List.length_cons, List.length_cons] at hhl; omega)
      · refine tt_aload_n X rfl dX10_isSo_60 ?_
        refine tt_getr X fX10_62 (k_60 _ _) (by decide) ⟨nofun, nofun⟩ rfl dX10_isSo_61 ?_
        refine tt_iload X rfl dX10_isSo_64 ?_
        refine tt_iaload X (k_77 _ _) (by first | omega | (simp (disch := decide) only [ot_rd, ot_rs, ot_rf, ot_ucd, ot_ucs]; omega)) dX10_isSo_66 ?_
        try simp (disch := decide) only [ot_rd, ot_rs, ot_rf, ot_ucd, ot_ucs]
        refine tt_iconst X dX10_isSo_67 ?_
        refine tt_icmp_ne X 116 (by first | omega | (simp (disch := decide) only [ot_rd, ot_rs, ot_rf, ot_ucd, ot_ucs]; omega)) dX10_isSo_68 (by decide) (fun b68 => ?_) (fun b68 => ?_)
        · refine tt_aload_n X rfl dX10_isSo_116 ?_
          refine tt_getr X fX10_62 (k_60 _ _) (by decide) ⟨nofun, nofun⟩ rfl dX10_isSo_117 ?_
          refine tt_iload X rfl dX10_isSo_120 ?_
          refine tt_iaload X (k_77 _ _) (by first | omega | (simp (disch := decide) only [ot_rd, ot_rs, ot_rf, ot_ucd, ot_ucs]; omega)) dX10_isSo_122 ?_
          try simp (disch := decide) only [ot_rd, ot_rs, ot_rf, ot_ucd, ot_ucs]
          refine tt_bipush X (by decide) dX10_isSo_123 ?_
          refine tt_icmp_ne X 149 (by first | omega | (simp (disch := decide) only [ot_rd, ot_rs, ot_rf, ot_ucd, ot_ucs]; omega)) dX10_isSo_125 (by decide) (fun b125 => ?_) (fun b125 => ?_)
          · obtain ⟨x, y, u, hV, hx, hy, h5, hbo⟩ := lw_two hs hib hfr (by omega)
            have hst := hI.2.1
            have hhl := hI.2.2
            rw [hV] at hst hhl
            have hS2 := stk_two hst hhl
            refine tt_iload_n X rfl dX10_isSo_149 ?_
            refine tt_iconst X dX10_isSo_150 ?_
            refine tt_isub X dX10_isSo_151 ?_
            refine tt_istore_n X dX10_isSo_152 (by decide) ?_
            have e1 : S (h - 1) = x := hS2.1
            have e2 : S (h - 1 - 1) = y := by rw [show h - 1 - 1 = h - 2 by omega]; exact hS2.2
            refine tt_aload_n X rfl dX10_isSo_153 ?_
            refine tt_getr X fX10_77 (k_60 _ _) (by decide) ⟨nofun, nofun⟩ rfl dX10_isSo_154 ?_
            refine tt_iload_n X rfl dX10_isSo_157 ?_
            refine tt_iconst X dX10_isSo_158 ?_
            refine tt_isub X dX10_isSo_159 ?_
            refine tt_aload_n X rfl dX10_isSo_160 ?_
            refine tt_aload_n X rfl dX10_isSo_161 ?_
            refine tt_getr X fX10_62 (k_60 _ _) (by decide) ⟨nofun, nofun⟩ rfl dX10_isSo_162 ?_
            refine tt_iload X rfl dX10_isSo_165 ?_
            refine tt_iaload X (k_77 _ _) (by first | omega | (simp (disch := decide) only [ot_rd, ot_rs, ot_rf, ot_ucd, ot_ucs]; omega)) dX10_isSo_167 ?_
            try simp (disch := decide) only [ot_rd, ot_rs, ot_rf, ot_ucd, ot_ucs]
            refine tt_aload_n X rfl dX10_isSo_168 ?_
            refine tt_getr X fX10_77 (k_60 _ _) (by decide) ⟨nofun, nofun⟩ rfl dX10_isSo_169 ?_
            refine tt_iload_n X rfl dX10_isSo_172 ?_
            refine tt_iconst X dX10_isSo_173 ?_
            refine tt_isub X dX10_isSo_174 ?_
            refine tt_iaload X (k_81 _ _) (by first | omega | (simp (disch := decide) only [ot_rd, ot_rs, ot_rf, ot_ucd, ot_ucs]; omega)) dX10_isSo_175 ?_
            try simp (disch := decide) only [ot_rd, ot_rs, ot_rf, ot_ucd, ot_ucs]
            refine tt_aload_n X rfl dX10_isSo_176 ?_
            refine tt_getr X fX10_77 (k_60 _ _) (by decide) ⟨nofun, nofun⟩ rfl dX10_isSo_177 ?_
            refine tt_iload_n X rfl dX10_isSo_180 ?_
            refine tt_iaload X (k_81 _ _) (by first | omega | (simp (disch := decide) only [ot_rd, ot_rs, ot_rf, ot_ucd, ot_ucs]; omega)) dX10_isSo_181 ?_
            try simp (disch := decide) only [ot_rd, ot_rs, ot_rf, ot_ucd, ot_ucs]
            refine tt_vi X rfl mX10_223 (q_twoOf l g ln ext _ _ _ _ (by rw [e2]; exact hy) (by rw [e1]; exact hx) (by omega) (by rw [e1]; exact h5) (by rw [e1, e2]; exact fun w => ⟨(hbo w).2, (hbo w).1⟩)) (k_60 _ _) ⟨_, rfl, rfl⟩ rfl rfl (Nat.le_of_ble_eq_true rfl) (by decide) (by decide) (by decide) dX10_isSo_182 (fun z182 L182 μ182 hp => ?_)
            obtain ⟨rfl, e182, hz182⟩ := hp
            replace e182 := e182.symm
            subst e182
            have hjn : z182 = tw (μ 77 i) y x := by rw [hz182, e1, e2]
            refine tt_iastore X (k_81 _ _) (by first | omega | (simp (disch := decide) only [ot_rd, ot_rs, ot_rf, ot_ucd, ot_ucs]; omega)) dX10_isSo_185 ?_
            refine tt_iinc X dX10_isSo_186 rfl (by decide) ?_
            refine tt_goto X 33 dX10_isSo_189 (by decide) ?_
            refine tt_loc [(0, _), (1, _), (2, _), (3, _), (4, _)] ⟨rfl, rfl, rfl, rfl, rfl, trivial⟩ ?_
            first
              | (exfalso; omega)
              | (have ho : (μ 77) i = 0 := by omega
                 have hV2 := evl_step (μ 77) (μ 78) fct hib.1
                 rw [ho] at hV2
                 replace hV2 : evl (μ 77) (μ 78) fct a (i + 1 - a).toNat = (μ 78) i :: evl (μ 77) (μ 78) fct a (i - a).toNat := hV2
                 refine tt_mem (μ' := ot_uc μ 81 (up1 S h ((μ 78) i))) (by first | exact ot_uc_up | (rw [show μ 13 i = (μ 78) i by omega]; exact ot_uc_up)) ?_
                 refine ih (i + 1, h + 1, up1 S h ((μ 78) i)) ⟨by show a ≤ i + 1 ∧ i + 1 ≤ b; omega, ?_, ?_⟩ (by show (b - (i + 1)).toNat < (b - i).toNat; omega)
                 · show stk _ (evl (μ 77) (μ 78) fct a (i + 1 - a).toNat)
                   rw [hV2]; exact stk_put hI.2.1 hI.2.2
                 · show h + 1 = ((evl (μ 77) (μ 78) fct a (i + 1 - a).toNat).length : Int)
                   rw [hV2, List.length_cons]; omega)
              | (have ho : (μ 77) i = 1 := by omega
                 have hV2 := evl_step (μ 77) (μ 78) fct hib.1
                 rw [ho] at hV2
                 replace hV2 : evl (μ 77) (μ 78) fct a (i + 1 - a).toNat = fct ((μ 78) i) :: evl (μ 77) (μ 78) fct a (i - a).toNat := hV2
                 refine tt_mem (μ' := ot_uc μ 81 (up1 S h (fct ((μ 78) i)))) (by rw [← hF ((μ 78) i) (by omega) (by omega)]; first | exact ot_uc_up | (rw [show μ 13 i - 10000 = (μ 78) i by omega]; exact ot_uc_up)) ?_
                 refine ih (i + 1, h + 1, up1 S h (fct ((μ 78) i))) ⟨by show a ≤ i + 1 ∧ i + 1 ≤ b; omega, ?_, ?_⟩ (by show (b - (i + 1)).toNat < (b - i).toNat; omega)
                 · show stk _ (evl (μ 77) (μ 78) fct a (i + 1 - a).toNat)
                   rw [hV2]; exact stk_put hI.2.1 hI.2.2
                 · show h + 1 = ((evl (μ 77) (μ 78) fct a (i + 1 - a).toNat).length : Int)
                   rw [hV2, List.length_cons]; omega)
              | (have ho : (μ 77) i = 9 := by omega
                 obtain ⟨x, t, hV, hx⟩ := lw_not hs hib hfr ho
                 have hV2 := evl_step (μ 77) (μ 78) fct hib.1
                 rw [ho, hV] at hV2
                 replace hV2 : evl (μ 77) (μ 78) fct a (i + 1 - a).toNat = wI (1 - x) :: t := hV2
                 rw [wI_id (by omega) (by omega)] at hV2
                 have hst := hI.2.1
                 have hhl := hI.2.2
                 rw [hV] at hst hhl
                 have hT : S (h - 1) = x := stk_top hst hhl
                 rw [List.length_cons] at hhl
                 refine tt_mem (μ' := ot_uc μ 81 (up1 S (h - 1) (1 - x))) (by rw [hT]; exact ot_uc_up) ?_
                 refine ih (i + 1, h, up1 S (h - 1) (1 - x)) ⟨by show a ≤ i + 1 ∧ i + 1 ≤ b; omega, ?_, ?_⟩ (by show (b - (i + 1)).toNat < (b - i).toNat; omega)
                 · show stk _ (evl (μ 77) (μ 78) fct a (i + 1 - a).toNat)
                   rw [hV2]; exact stk_put hst.2 (by omega)
                 · show h = ((evl (μ 77) (μ 78) fct a (i + 1 - a).toNat).length : Int)
                   rw [hV2, List.length_cons]; omega)
              | (have hV2 := evl_step (μ 77) (μ 78) fct hib.1
                 rw [hV, ev1_two (by omega)] at hV2
                 refine tt_mem (μ' := ot_uc μ 81 (up1 S (h - 1 - 1) (tw ((μ 77) i) y x))) (by rw [← hjn]; exact ot_uc_up) ?_
                 refine ih (i + 1, h - 1, up1 S (h - 1 - 1) (tw ((μ 77) i) y x)) ⟨by show a ≤ i + 1 ∧ i + 1 ≤ b; omega, ?_, ?_⟩ (by show (b - (i + 1)).toNat < (b - i).toNat; omega)
                 · show stk _ (evl (μ 77) (μ 78) fct a (i + 1 - a).toNat)
                   rw [hV2]; exact stk_put hst.2.2 (by rw [List.length_cons, List.length_cons] at hhl; omega)
                 · show h - 1 = ((evl (μ 77) (μ 78) fct a (i + 1 - a).toNat).length : Int)
                   rw [hV2, List.length_cons]; rw [List.length_cons, List.length_cons] at hhl; omega)
          · refine tt_aload_n X rfl dX10_isSo_128 ?_
            refine tt_getr X fX10_77 (k_60 _ _) (by decide) ⟨nofun, nofun⟩ rfl dX10_isSo_129 ?_
            refine tt_iload_n X rfl dX10_isSo_132 ?_
            refine tt_iconst X dX10_isSo_133 ?_
            refine tt_isub X dX10_isSo_134 ?_
            refine tt_iconst X dX10_isSo_135 ?_
            refine tt_aload_n X rfl dX10_isSo_136 ?_
            refine tt_getr X fX10_77 (k_60 _ _) (by decide) ⟨nofun, nofun⟩ rfl dX10_isSo_137 ?_
            refine tt_iload_n X rfl dX10_isSo_140 ?_
            refine tt_iconst X dX10_isSo_141 ?_
            refine tt_isub X dX10_isSo_142 ?_
            refine tt_iaload X (k_81 _ _) (by first | omega | (simp (disch := decide) only [ot_rd, ot_rs, ot_rf, ot_ucd, ot_ucs]; omega)) dX10_isSo_143 ?_
            try simp (disch := decide) only [ot_rd, ot_rs, ot_rf, ot_ucd, ot_ucs]
            refine tt_isub X dX10_isSo_144 ?_
            refine tt_iastore X (k_81 _ _) (by first | omega | (simp (disch := decide) only [ot_rd, ot_rs, ot_rf, ot_ucd, ot_ucs]; omega)) dX10_isSo_145 ?_
            refine tt_goto X 186 dX10_isSo_146 (by decide) ?_
            refine tt_iinc X dX10_isSo_186 rfl (by decide) ?_
            refine tt_goto X 33 dX10_isSo_189 (by decide) ?_
            refine tt_loc [(0, _), (1, _), (2, _), (3, _), (4, _)] ⟨rfl, rfl, rfl, rfl, rfl, trivial⟩ ?_
            first
              | (exfalso; omega)
              | (have ho : (μ 77) i = 0 := by omega
                 have hV2 := evl_step (μ 77) (μ 78) fct hib.1
                 rw [ho] at hV2
                 replace hV2 : evl (μ 77) (μ 78) fct a (i + 1 - a).toNat = (μ 78) i :: evl (μ 77) (μ 78) fct a (i - a).toNat := hV2
                 refine tt_mem (μ' := ot_uc μ 81 (up1 S h ((μ 78) i))) (by first | exact ot_uc_up | (rw [show μ 13 i = (μ 78) i by omega]; exact ot_uc_up)) ?_
                 refine ih (i + 1, h + 1, up1 S h ((μ 78) i)) ⟨by show a ≤ i + 1 ∧ i + 1 ≤ b; omega, ?_, ?_⟩ (by show (b - (i + 1)).toNat < (b - i).toNat; omega)
                 · show stk _ (evl (μ 77) (μ 78) fct a (i + 1 - a).toNat)
                   rw [hV2]; exact stk_put hI.2.1 hI.2.2
                 · show h + 1 = ((evl (μ 77) (μ 78) fct a (i + 1 - a).toNat).length : Int)
                   rw [hV2, List.length_cons]; omega)
              | (have ho : (μ 77) i = 1 := by omega
                 have hV2 := evl_step (μ 77) (μ 78) fct hib.1
                 rw [ho] at hV2
                 replace hV2 : evl (μ 77) (μ 78) fct a (i + 1 - a).toNat = fct ((μ 78) i) :: evl (μ 77) (μ 78) fct a (i - a).toNat := hV2
                 refine tt_mem (μ' := ot_uc μ 81 (up1 S h (fct ((μ 78) i)))) (by rw [← hF ((μ 78) i) (by omega) (by omega)]; first | exact ot_uc_up | (rw [show μ 13 i - 10000 = (μ 78) i by omega]; exact ot_uc_up)) ?_
                 refine ih (i + 1, h + 1, up1 S h (fct ((μ 78) i))) ⟨by show a ≤ i + 1 ∧ i + 1 ≤ b; omega, ?_, ?_⟩ (by show (b - (i + 1)).toNat < (b - i).toNat; omega)
                 · show stk _ (evl (μ 77) (μ 78) fct a (i + 1 - a).toNat)
                   rw [hV2]; exact stk_put hI.2.1 hI.2.2
                 · show h + 1 = ((evl (μ 77) (μ 78) fct a (i + 1 - a).toNat).length : Int)
                   rw [hV2, List.length_cons]; omega)
              | (have ho : (μ 77) i = 9 := by omega
                 obtain ⟨x, t, hV, hx⟩ := lw_not hs hib hfr ho
                 have hV2 := evl_step (μ 77) (μ 78) fct hib.1
                 rw [ho, hV] at hV2
                 replace hV2 : evl (μ 77) (μ 78) fct a (i + 1 - a).toNat = wI (1 - x) :: t := hV2
                 rw [wI_id (by omega) (by omega)] at hV2
                 have hst := hI.2.1
                 have hhl := hI.2.2
                 rw [hV] at hst hhl
                 have hT : S (h - 1) = x := stk_top hst hhl
                 rw [List.length_cons] at hhl
                 refine tt_mem (μ' := ot_uc μ 81 (up1 S (h - 1) (1 - x))) (by rw [hT]; exact ot_uc_up) ?_
                 refine ih (i + 1, h, up1 S (h - 1) (1 - x)) ⟨by show a ≤ i + 1 ∧ i + 1 ≤ b; omega, ?_, ?_⟩ (by show (b - (i + 1)).toNat < (b - i).toNat; omega)
                 · show stk _ (evl (μ 77) (μ 78) fct a (i + 1 - a).toNat)
                   rw [hV2]; exact stk_put hst.2 (by omega)
                 · show h = ((evl (μ 77) (μ 78) fct a (i + 1 - a).toNat).length : Int)
                   rw [hV2, List.length_cons]; omega)
              | (have hV2 := evl_step (μ 77) (μ 78) fct hib.1
                 rw [hV, ev1_two (by omega)] at hV2
                 refine tt_mem (μ' := ot_uc μ 81 (up1 S (h - 1 - 1) (tw ((μ 77) i) y x))) (by rw [← hjn]; exact ot_uc_up) ?_
                 refine ih (i + 1, h - 1, up1 S (h - 1 - 1) (tw ((μ 77) i) y x)) ⟨by show a ≤ i + 1 ∧ i + 1 ≤ b; omega, ?_, ?_⟩ (by show (b - (i + 1)).toNat < (b - i).toNat; omega)
                 · show stk _ (evl (μ 77) (μ 78) fct a (i + 1 - a).toNat)
                   rw [hV2]; exact stk_put hst.2.2 (by rw [List.length_cons, List.length_cons] at hhl; omega)
                 · show h - 1 = ((evl (μ 77) (μ 78) fct a (i + 1 - a).toNat).length : Int)
                   rw [hV2, List.length_cons]; rw [List.length_cons, List.length_cons] at hhl; omega)
        · refine tt_aload_n X rfl dX10_isSo_71 ?_
          refine tt_getr X fX10_77 (k_60 _ _) (by decide) ⟨nofun, nofun⟩ rfl dX10_isSo_72 ?_
          refine tt_iload_n X rfl dX10_isSo_75 ?_
          refine tt_aload_n X rfl dX10_isSo_76 ?_
          refine tt_getr X fX10_62 (k_60 _ _) (by decide) ⟨nofun, nofun⟩ rfl dX10_isSo_77 ?_
          refine tt_iload X rfl dX10_isSo_80 ?_
          refine tt_iaload X (k_77 _ _) (by first | omega | (simp (disch := decide) only [ot_rd, ot_rs, ot_rf, ot_ucd, ot_ucs]; omega)) dX10_isSo_82 ?_
          try simp (disch := decide) only [ot_rd, ot_rs, ot_rf, ot_ucd, ot_ucs]
          refine tt_if_ne X 96 (by first | omega | (simp (disch := decide) only [ot_rd, ot_rs, ot_rf, ot_ucd, ot_ucs]; omega)) dX10_isSo_83 (by decide) (fun b83 => ?_) (fun b83 => ?_)
          · refine tt_aload_n X rfl dX10_isSo_96 ?_
            refine tt_getr X fX10_74 (k_60 _ _) (by decide) ⟨nofun, nofun⟩ rfl dX10_isSo_97 ?_
            refine tt_aload_n X rfl dX10_isSo_100 ?_
            refine tt_getr X fX10_65 (k_60 _ _) (by decide) ⟨nofun, nofun⟩ rfl dX10_isSo_101 ?_
            refine tt_iload X rfl dX10_isSo_104 ?_
            refine tt_iaload X (k_78 _ _) (by first | omega | (simp (disch := decide) only [ot_rd, ot_rs, ot_rf, ot_ucd, ot_ucs]; omega)) dX10_isSo_106 ?_
            try simp (disch := decide) only [ot_rd, ot_rs, ot_rf, ot_ucd, ot_ucs]
            refine tt_iaload X (k_80 _ _) (by first | omega | (simp (disch := decide) only [ot_rd, ot_rs, ot_rf, ot_ucd, ot_ucs]; omega)) dX10_isSo_107 ?_
            try simp (disch := decide) only [ot_rd, ot_rs, ot_rf, ot_ucd, ot_ucs]
            refine tt_iastore X (k_81 _ _) (by first | omega | (simp (disch := decide) only [ot_rd, ot_rs, ot_rf, ot_ucd, ot_ucs]; omega)) dX10_isSo_108 ?_
            refine tt_iload_n X rfl dX10_isSo_109 ?_
            refine tt_iconst X dX10_isSo_110 ?_
            refine tt_iadd X dX10_isSo_111 ?_
            refine tt_istore_n X dX10_isSo_112 (by decide) ?_
            refine tt_goto X 186 dX10_isSo_113 (by decide) ?_
            refine tt_iinc X dX10_isSo_186 rfl (by decide) ?_
            refine tt_goto X 33 dX10_isSo_189 (by decide) ?_
            refine tt_loc [(0, _), (1, _), (2, _), (3, _), (4, _)] ⟨rfl, rfl, rfl, rfl, rfl, trivial⟩ ?_
            first
              | (exfalso; omega)
              | (have ho : (μ 77) i = 0 := by omega
                 have hV2 := evl_step (μ 77) (μ 78) fct hib.1
                 rw [ho] at hV2
                 replace hV2 : evl (μ 77) (μ 78) fct a (i + 1 - a).toNat = (μ 78) i :: evl (μ 77) (μ 78) fct a (i - a).toNat := hV2
                 refine tt_mem (μ' := ot_uc μ 81 (up1 S h ((μ 78) i))) (by first | exact ot_uc_up | (rw [show μ 13 i = (μ 78) i by omega]; exact ot_uc_up)) ?_
                 refine ih (i + 1, h + 1, up1 S h ((μ 78) i)) ⟨by show a ≤ i + 1 ∧ i + 1 ≤ b; omega, ?_, ?_⟩ (by show (b - (i + 1)).toNat < (b - i).toNat; omega)
                 · show stk _ (evl (μ 77) (μ 78) fct a (i + 1 - a).toNat)
                   rw [hV2]; exact stk_put hI.2.1 hI.2.2
                 · show h + 1 = ((evl (μ 77) (μ 78) fct a (i + 1 - a).toNat).length : Int)
                   rw [hV2, List.length_cons]; omega)
              | (have ho : (μ 77) i = 1 := by omega
                 have hV2 := evl_step (μ 77) (μ 78) fct hib.1
                 rw [ho] at hV2
                 replace hV2 : evl (μ 77) (μ 78) fct a (i + 1 - a).toNat = fct ((μ 78) i) :: evl (μ 77) (μ 78) fct a (i - a).toNat := hV2
                 refine tt_mem (μ' := ot_uc μ 81 (up1 S h (fct ((μ 78) i)))) (by rw [← hF ((μ 78) i) (by omega) (by omega)]; first | exact ot_uc_up | (rw [show μ 13 i - 10000 = (μ 78) i by omega]; exact ot_uc_up)) ?_
                 refine ih (i + 1, h + 1, up1 S h (fct ((μ 78) i))) ⟨by show a ≤ i + 1 ∧ i + 1 ≤ b; omega, ?_, ?_⟩ (by show (b - (i + 1)).toNat < (b - i).toNat; omega)
                 · show stk _ (evl (μ 77) (μ 78) fct a (i + 1 - a).toNat)
                   rw [hV2]; exact stk_put hI.2.1 hI.2.2
                 · show h + 1 = ((evl (μ 77) (μ 78) fct a (i + 1 - a).toNat).length : Int)
                   rw [hV2, List.length_cons]; omega)
              | (have ho : (μ 77) i = 9 := by omega
                 obtain ⟨x, t, hV, hx⟩ := lw_not hs hib hfr ho
                 have hV2 := evl_step (μ 77) (μ 78) fct hib.1
                 rw [ho, hV] at hV2
                 replace hV2 : evl (μ 77) (μ 78) fct a (i + 1 - a).toNat = wI (1 - x) :: t := hV2
                 rw [wI_id (by omega) (by omega)] at hV2
                 have hst := hI.2.1
                 have hhl := hI.2.2
                 rw [hV] at hst hhl
                 have hT : S (h - 1) = x := stk_top hst hhl
                 rw [List.length_cons] at hhl
                 refine tt_mem (μ' := ot_uc μ 81 (up1 S (h - 1) (1 - x))) (by rw [hT]; exact ot_uc_up) ?_
                 refine ih (i + 1, h, up1 S (h - 1) (1 - x)) ⟨by show a ≤ i + 1 ∧ i + 1 ≤ b; omega, ?_, ?_⟩ (by show (b - (i + 1)).toNat < (b - i).toNat; omega)
                 · show stk _ (evl (μ 77) (μ 78) fct a (i + 1 - a).toNat)
                   rw [hV2]; exact stk_put hst.2 (by omega)
                 · show h = ((evl (μ 77) (μ 78) fct a (i + 1 - a).toNat).length : Int)
                   rw [hV2, List.length_cons]; omega)
              | (have hV2 := evl_step (μ 77) (μ 78) fct hib.1
                 rw [hV, ev1_two (by omega)] at hV2
                 refine tt_mem (μ' := ot_uc μ 81 (up1 S (h - 1 - 1) (tw ((μ 77) i) y x))) (by rw [← hjn]; exact ot_uc_up) ?_
                 refine ih (i + 1, h - 1, up1 S (h - 1 - 1) (tw ((μ 77) i) y x)) ⟨by show a ≤ i + 1 ∧ i + 1 ≤ b; omega, ?_, ?_⟩ (by show (b - (i + 1)).toNat < (b - i).toNat; omega)
                 · show stk _ (evl (μ 77) (μ 78) fct a (i + 1 - a).toNat)
                   rw [hV2]; exact stk_put hst.2.2 (by rw [List.length_cons, List.length_cons] at hhl; omega)
                 · show h - 1 = ((evl (μ 77) (μ 78) fct a (i + 1 - a).toNat).length : Int)
                   rw [hV2, List.length_cons]; rw [List.length_cons, List.length_cons] at hhl; omega)
          · refine tt_aload_n X rfl dX10_isSo_86 ?_
            refine tt_getr X fX10_65 (k_60 _ _) (by decide) ⟨nofun, nofun⟩ rfl dX10_isSo_87 ?_
            refine tt_iload X rfl dX10_isSo_90 ?_
            refine tt_iaload X (k_78 _ _) (by first | omega | (simp (disch := decide) only [ot_rd, ot_rs, ot_rf, ot_ucd, ot_ucs]; omega)) dX10_isSo_92 ?_
            try simp (disch := decide) only [ot_rd, ot_rs, ot_rf, ot_ucd, ot_ucs]
            refine tt_goto X 108 dX10_isSo_93 (by decide) ?_
            refine tt_iastore X (k_81 _ _) (by first | omega | (simp (disch := decide) only [ot_rd, ot_rs, ot_rf, ot_ucd, ot_ucs]; omega)) dX10_isSo_108 ?_
            refine tt_iload_n X rfl dX10_isSo_109 ?_
            refine tt_iconst X dX10_isSo_110 ?_
            refine tt_iadd X dX10_isSo_111 ?_
            refine tt_istore_n X dX10_isSo_112 (by decide) ?_
            refine tt_goto X 186 dX10_isSo_113 (by decide) ?_
            refine tt_iinc X dX10_isSo_186 rfl (by decide) ?_
            refine tt_goto X 33 dX10_isSo_189 (by decide) ?_
            refine tt_loc [(0, _), (1, _), (2, _), (3, _), (4, _)] ⟨rfl, rfl, rfl, rfl, rfl, trivial⟩ ?_
            first
              | (exfalso; omega)
              | (have ho : (μ 77) i = 0 := by omega
                 have hV2 := evl_step (μ 77) (μ 78) fct hib.1
                 rw [ho] at hV2
                 replace hV2 : evl (μ 77) (μ 78) fct a (i + 1 - a).toNat = (μ 78) i :: evl (μ 77) (μ 78) fct a (i - a).toNat := hV2
                 refine tt_mem (μ' := ot_uc μ 81 (up1 S h ((μ 78) i))) (by first | exact ot_uc_up | (rw [show μ 13 i = (μ 78) i by omega]; exact ot_uc_up)) ?_
                 refine ih (i + 1, h + 1, up1 S h ((μ 78) i)) ⟨by show a ≤ i + 1 ∧ i + 1 ≤ b; omega, ?_, ?_⟩ (by show (b - (i + 1)).toNat < (b - i).toNat; omega)
                 · show stk _ (evl (μ 77) (μ 78) fct a (i + 1 - a).toNat)
                   rw [hV2]; exact stk_put hI.2.1 hI.2.2
                 · show h + 1 = ((evl (μ 77) (μ 78) fct a (i + 1 - a).toNat).length : Int)
                   rw [hV2, List.length_cons]; omega)
              | (have ho : (μ 77) i = 1 := by omega
                 have hV2 := evl_step (μ 77) (μ 78) fct hib.1
                 rw [ho] at hV2
                 replace hV2 : evl (μ 77) (μ 78) fct a (i + 1 - a).toNat = fct ((μ 78) i) :: evl (μ 77) (μ 78) fct a (i - a).toNat := hV2
                 refine tt_mem (μ' := ot_uc μ 81 (up1 S h (fct ((μ 78) i)))) (by rw [← hF ((μ 78) i) (by omega) (by omega)]; first | exact ot_uc_up | (rw [show μ 13 i - 10000 = (μ 78) i by omega]; exact ot_uc_up)) ?_
                 refine ih (i + 1, h + 1, up1 S h (fct ((μ 78) i))) ⟨by show a ≤ i + 1 ∧ i + 1 ≤ b; omega, ?_, ?_⟩ (by show (b - (i + 1)).toNat < (b - i).toNat; omega)
                 · show stk _ (evl (μ 77) (μ 78) fct a (i + 1 - a).toNat)
                   rw [hV2]; exact stk_put hI.2.1 hI.2.2
                 · show h + 1 = ((evl (μ 77) (μ 78) fct a (i + 1 - a).toNat).length : Int)
                   rw [hV2, List.length_cons]; omega)
              | (have ho : (μ 77) i = 9 := by omega
                 obtain ⟨x, t, hV, hx⟩ := lw_not hs hib hfr ho
                 have hV2 := evl_step (μ 77) (μ 78) fct hib.1
                 rw [ho, hV] at hV2
                 replace hV2 : evl (μ 77) (μ 78) fct a (i + 1 - a).toNat = wI (1 - x) :: t := hV2
                 rw [wI_id (by omega) (by omega)] at hV2
                 have hst := hI.2.1
                 have hhl := hI.2.2
                 rw [hV] at hst hhl
                 have hT : S (h - 1) = x := stk_top hst hhl
                 rw [List.length_cons] at hhl
                 refine tt_mem (μ' := ot_uc μ 81 (up1 S (h - 1) (1 - x))) (by rw [hT]; exact ot_uc_up) ?_
                 refine ih (i + 1, h, up1 S (h - 1) (1 - x)) ⟨by show a ≤ i + 1 ∧ i + 1 ≤ b; omega, ?_, ?_⟩ (by show (b - (i + 1)).toNat < (b - i).toNat; omega)
                 · show stk _ (evl (μ 77) (μ 78) fct a (i + 1 - a).toNat)
                   rw [hV2]; exact stk_put hst.2 (by omega)
                 · show h = ((evl (μ 77) (μ 78) fct a (i + 1 - a).toNat).length : Int)
                   rw [hV2, List.length_cons]; omega)
              | (have hV2 := evl_step (μ 77) (μ 78) fct hib.1
                 rw [hV, ev1_two (by omega)] at hV2
                 refine tt_mem (μ' := ot_uc μ 81 (up1 S (h - 1 - 1) (tw ((μ 77) i) y x))) (by rw [← hjn]; exact ot_uc_up) ?_
                 refine ih (i + 1, h - 1, up1 S (h - 1 - 1) (tw ((μ 77) i) y x)) ⟨by show a ≤ i + 1 ∧ i + 1 ≤ b; omega, ?_, ?_⟩ (by show (b - (i + 1)).toNat < (b - i).toNat; omega)
                 · show stk _ (evl (μ 77) (μ 78) fct a (i + 1 - a).toNat)
                   rw [hV2]; exact stk_put hst.2.2 (by rw [List.length_cons, List.length_cons] at hhl; omega)
                 · show h - 1 = ((evl (μ 77) (μ 78) fct a (i + 1 - a).toNat).length : Int)
                   rw [hV2, List.length_cons]; rw [List.length_cons, List.length_cons] at hhl; omega)
  · refine tt_iconst X dX10_isSo_15 ?_
    refine tt_zret X ⟨hr.1, hr.2.1⟩ (by omega) (by decide) (by decide) dX10_isSo_16 ?_
    refine ⟨rfl, ?_, μ 81, ot_uc_self.symm⟩
    rw [show a = b by omega, hold_same]; rfl
set_option maxRecDepth 100000 in
set_option maxHeartbeats 1000000 in
theorem q_lets (l : Launch) (g : ot_G) (ln : Nat) (ext : ot_L) (μ : ot_M) (t q : Int) (hG : gPin (μ 60 1) (μ 60 2) (μ 61) (μ 62)) (hW : gWnd (μ 60 2) (μ 64) (μ 65)) (hs : gShd (μ 63)) (hL : gLawQ (μ 60 23) (μ 77) (μ 78) (μ 74) (μ 75) (μ 76)) (ht : 0 ≤ t ∧ t < 3) (hq : 0 ≤ q ∧ q < μ 60 2) (hc : 1 ≤ μ 64 t) (hne : μ 65 (120 * t + (μ 64 t - 1)) ≠ q) : ot_C l g yX10_lets cX10_lets 6 (some .boolean) 2 0 0 [.inr 60, .inl t, .inl q] (LL ln ext) μ (ot_pi (fun r L2 μ2 => L2 = LL ln ext ∧ r = lawS (μ 77) (μ 78) (fcV (μ 61) (μ 62) (μ 64) (μ 65) (μ 63) t q) (μ 74) (μ 75) (μ 76) (μ 60 23).toNat (μ 60 23).toNat ∧ ∃ f S, μ2 = ot_uc (ot_uc μ 80 f) 81 S)) := by
  refine ot_enter (by decide) (Nat.le_of_ble_eq_true rfl) ?_
  intro p e s m args below meth c X hr
  have hNn := hG.2.1
  have hWt := hW t ht.1 ht.2
  have hm := hL.1
  have hst := hs t ht.1 ht.2
  have hp0 := hWt.2.1 (μ 64 t - 1) (by omega) (by omega)
  have hfr := fcV_rng hG hW hs ht hq hc
  refine tt_aload_n X rfl dX10_lets_0 ?_
  refine tt_getr X fX10_23 (k_60 _ _) (by decide) ⟨nofun, nofun⟩ rfl dX10_lets_1 ?_
  refine tt_iload_n X rfl dX10_lets_4 ?_
  refine tt_iaload X (k_64 _ _) (by omega) dX10_lets_5 ?_
  refine tt_istore_n X dX10_lets_6 (by decide) ?_
  refine tt_aload_n X rfl dX10_lets_7 ?_
  refine tt_iload_n X rfl dX10_lets_8 ?_
  refine tt_iload_n X rfl dX10_lets_9 ?_
  refine tt_iconst X dX10_lets_10 ?_
  refine tt_isub X dX10_lets_11 ?_
  refine tt_vi X rfl mX10_239 (q_woundAt l g ln ext _ _ _ (by omega) (by omega)) (k_60 _ _) ⟨_, rfl, rfl⟩ rfl rfl (Nat.le_of_ble_eq_true rfl) (by decide) (by decide) (by decide) dX10_lets_12 (fun z12 L12 μ12 hp => ?_)
  obtain ⟨rfl, e12, hz12⟩ := hp
  replace e12 := e12.symm
  subst e12
  refine tt_istore X dX10_lets_15 (by decide) ?_
  have hz12e : z12 = μ 65 (120 * t + (μ 64 t - 1)) := hz12
  have hp1 := gPin_at hG (a := z12) (by omega) (by omega)
  have hp2 := gPin_at hG hq.1 hq.2
  refine tt_aload_n X rfl dX10_lets_17 ?_
  refine tt_getr X fX10_74 (k_60 _ _) (by decide) ⟨nofun, nofun⟩ rfl dX10_lets_18 ?_
  refine tt_iconst X dX10_lets_21 ?_
  refine tt_iload X rfl dX10_lets_22 ?_
  refine tt_iastore X (k_80 _ _) (by first | omega | (simp (disch := decide) only [ot_rd, ot_rs, ot_rf, ot_ucd, ot_ucs]; omega)) dX10_lets_24 ?_
  refine tt_aload_n X rfl dX10_lets_25 ?_
  refine tt_getr X fX10_74 (k_60 _ _) (by decide) ⟨nofun, nofun⟩ rfl dX10_lets_26 ?_
  refine tt_iconst X dX10_lets_29 ?_
  refine tt_iload_n X rfl dX10_lets_30 ?_
  refine tt_iastore X (k_80 _ _) (by first | omega | (simp (disch := decide) only [ot_rd, ot_rs, ot_rf, ot_ucd, ot_ucs]; omega)) dX10_lets_31 ?_
  refine tt_aload_n X rfl dX10_lets_32 ?_
  refine tt_getr X fX10_74 (k_60 _ _) (by decide) ⟨nofun, nofun⟩ rfl dX10_lets_33 ?_
  refine tt_iconst X dX10_lets_36 ?_
  refine tt_aload_n X rfl dX10_lets_37 ?_
  refine tt_iload X rfl dX10_lets_38 ?_
  refine tt_iload_n X rfl dX10_lets_40 ?_
  refine tt_vi X rfl mX10_230 (q_lengthOf l g ln ext _ _ _ (by omega) (by omega) (by simp (disch := decide) only [ot_ucd, ot_ucs, ot_rd, ot_rs, ot_rf, ot_rdf]; omega)) (k_60 _ _) ⟨_, rfl, rfl⟩ rfl rfl (Nat.le_of_ble_eq_true rfl) (by decide) (by decide) (by decide) dX10_lets_41 (fun z41 L41 μ41 hp => ?_)
  obtain ⟨rfl, e41, hz41⟩ := hp
  replace e41 := e41.symm
  subst e41
  refine tt_iastore X (k_80 _ _) (by first | omega | (simp (disch := decide) only [ot_rd, ot_rs, ot_rf, ot_ucd, ot_ucs]; omega)) dX10_lets_44 ?_
  refine tt_aload_n X rfl dX10_lets_45 ?_
  refine tt_getr X fX10_74 (k_60 _ _) (by decide) ⟨nofun, nofun⟩ rfl dX10_lets_46 ?_
  refine tt_iconst X dX10_lets_49 ?_
  refine tt_aload_n X rfl dX10_lets_50 ?_
  refine tt_iload X rfl dX10_lets_51 ?_
  refine tt_iload_n X rfl dX10_lets_53 ?_
  refine tt_vi X rfl mX10_246 (q_usedOf l g ln ext _ _ _ (by omega) (by omega) (by simp (disch := decide) only [ot_ucd, ot_ucs, ot_rd, ot_rs, ot_rf, ot_rdf]; omega) (by simp (disch := decide) only [ot_ucd, ot_ucs, ot_rd, ot_rs, ot_rf, ot_rdf]; exact hW)) (k_60 _ _) ⟨_, rfl, rfl⟩ rfl rfl (Nat.le_of_ble_eq_true rfl) (by decide) (by decide) (by decide) dX10_lets_54 (fun z54 L54 μ54 hp => ?_)
  obtain ⟨rfl, e54, hz54⟩ := hp
  replace e54 := e54.symm
  subst e54
  refine tt_iastore X (k_80 _ _) (by first | omega | (simp (disch := decide) only [ot_rd, ot_rs, ot_rf, ot_ucd, ot_ucs]; omega)) dX10_lets_57 ?_
  refine tt_aload_n X rfl dX10_lets_58 ?_
  refine tt_getr X fX10_74 (k_60 _ _) (by decide) ⟨nofun, nofun⟩ rfl dX10_lets_59 ?_
  refine tt_iconst X dX10_lets_62 ?_
  refine tt_iload_n X rfl dX10_lets_63 ?_
  refine tt_iastore X (k_80 _ _) (by first | omega | (simp (disch := decide) only [ot_rd, ot_rs, ot_rf, ot_ucd, ot_ucs]; omega)) dX10_lets_64 ?_
  refine tt_aload_n X rfl dX10_lets_65 ?_
  refine tt_getr X fX10_74 (k_60 _ _) (by decide) ⟨nofun, nofun⟩ rfl dX10_lets_66 ?_
  refine tt_iconst X dX10_lets_69 ?_
  refine tt_iload_n X rfl dX10_lets_70 ?_
  refine tt_iastore X (k_80 _ _) (by first | omega | (simp (disch := decide) only [ot_rd, ot_rs, ot_rf, ot_ucd, ot_ucs]; omega)) dX10_lets_71 ?_
  refine tt_aload_n X rfl dX10_lets_72 ?_
  refine tt_getr X fX10_74 (k_60 _ _) (by decide) ⟨nofun, nofun⟩ rfl dX10_lets_73 ?_
  refine tt_bipush X (by decide) dX10_lets_76 ?_
  refine tt_iload_n X rfl dX10_lets_78 ?_
  refine tt_iconst X dX10_lets_79 ?_
  refine tt_icmp_le X 99 (by first | omega | (simp (disch := decide) only [ot_rd, ot_rs, ot_rf, ot_ucd, ot_ucs]; omega)) dX10_lets_80 (by decide) (fun b80 => ?_) (fun b80 => ?_)
  · refine tt_iconst X dX10_lets_99 ?_
    refine tt_iastore X (k_80 _ _) (by first | omega | (simp (disch := decide) only [ot_rd, ot_rs, ot_rf, ot_ucd, ot_ucs]; omega)) dX10_lets_100 ?_
    refine tt_aload_n X rfl dX10_lets_101 ?_
    refine tt_getr X fX10_74 (k_60 _ _) (by decide) ⟨nofun, nofun⟩ rfl dX10_lets_102 ?_
    refine tt_bipush X (by decide) dX10_lets_105 ?_
    refine tt_aload_n X rfl dX10_lets_107 ?_
    refine tt_getr X fX10_20 (k_60 _ _) (by decide) ⟨nofun, nofun⟩ rfl dX10_lets_108 ?_
    refine tt_iload_n X rfl dX10_lets_111 ?_
    refine tt_iaload X (k_63 _ _) (by first | omega | (simp (disch := decide) only [ot_rd, ot_rs, ot_rf, ot_ucd, ot_ucs]; omega)) dX10_lets_112 ?_
    try simp (disch := decide) only [ot_rd, ot_rs, ot_rf, ot_ucd, ot_ucs]
    refine tt_iastore X (k_80 _ _) (by first | omega | (simp (disch := decide) only [ot_rd, ot_rs, ot_rf, ot_ucd, ot_ucs]; omega)) dX10_lets_113 ?_
    refine tt_iconst X dX10_lets_114 ?_
    refine tt_istore X dX10_lets_115 (by decide) ?_
    obtain ⟨FV, hFV, hMV⟩ : ∃ FV, (∀ j, 0 ≤ j → j < 8 → FV j = fcV (μ 61) (μ 62) (μ 64) (μ 65) (μ 63) t q j) ∧ (ot_up (ot_up (ot_up (ot_up (ot_up (ot_up (ot_up (ot_up μ 80 0 z12) 80 1 q) 80 2 z41) 80 3 z54) 80 4 t) 80 5 (μ 64 t)) 80 6 0) 80 7 (μ 63 t)) = ot_uc μ 80 FV := by
      refine ⟨up1 (up1 (up1 (up1 (up1 (up1 (up1 (up1 (μ 80) 0 z12) 1 q) 2 z41) 3 z54) 4 t) 5 (μ 64 t)) 6 0) 7 (μ 63 t), ?_, ?_⟩
      · intro j j1 j2
        rcases (show j = 0 ∨ j = 1 ∨ j = 2 ∨ j = 3 ∨ j = 4 ∨ j = 5 ∨ j = 6 ∨ j = 7 by omega) with rfl | rfl | rfl | rfl | rfl | rfl | rfl | rfl
        · simp (disch := decide) only [up1_s, up1_n]; exact hz12e
        · simp (disch := decide) only [up1_s, up1_n]; rfl
        · simp (disch := decide) only [up1_s, up1_n]
          simp (disch := decide) only [ot_rd, ot_rs, ot_rf] at hz41
          rw [hz41, hz12e]; rfl
        · simp (disch := decide) only [up1_s, up1_n]
          simp (disch := decide) only [ot_rd, ot_rs, ot_rf, ot_rdf] at hz54
          rw [hz54, hz12e]; rfl
        · simp (disch := decide) only [up1_s, up1_n]; rfl
        · simp (disch := decide) only [up1_s, up1_n]; rfl
        · simp (disch := decide) only [up1_s, up1_n]
          show _ = if 1 < μ 64 t ∧ μ 65 (120 * t + (μ 64 t - 2)) = q then (1 : Int) else 0
          first | rw [if_pos (by omega)] | rw [if_neg (by omega)]
        · simp (disch := decide) only [up1_s, up1_n]; rfl
      · rw [ot_up_uc (μ := μ)]
        simp only [ot_uc_up1]
    refine tt_mem (μ' := ot_uc (ot_uc μ 80 FV) 81 (μ 81)) (by rw [hMV]; exact (ot_uc_id (by simp (disch := decide) only [ot_ucd])).symm) ?_
    refine tt_loc [(0, _), (1, _), (2, _), (5, _)] ⟨rfl, rfl, rfl, rfl, trivial⟩ ?_
    refine tt_loop (α := Int × (Int → Int)) (fun ((i, S)) => (μ 60 23 - i).toNat) (fun ((i, S)) => (0 ≤ i ∧ i ≤ μ 60 23) ∧ lawS (μ 77) (μ 78) (fcV (μ 61) (μ 62) (μ 64) (μ 65) (μ 63) t q) (μ 74) (μ 75) (μ 76) (μ 60 23).toNat (μ 60 23).toNat = lawS (μ 77) (μ 78) (fcV (μ 61) (μ 62) (μ 64) (μ 65) (μ 63) t q) (μ 74) (μ 75) (μ 76) (μ 60 23).toNat (μ 60 23 - i).toNat) (fun ((i, S)) => ot_uc (ot_uc μ 80 FV) 81 S) (fun ((i, S)) => [(0, .inr 60), (1, .inl t), (2, .inl q), (5, .inl i)]) (0, μ 81) ⟨by show 0 ≤ (0 : Int) ∧ (0 : Int) ≤ μ 60 23; omega, by rw [Int.sub_zero]⟩ ?_
    intro a hI ih
    obtain ⟨i, S⟩ := a
    try dsimp only at hI ih ⊢
    replace hI : (0 ≤ i ∧ i ≤ μ 60 23) ∧ lawS (μ 77) (μ 78) (fcV (μ 61) (μ 62) (μ 64) (μ 65) (μ 63) t q) (μ 74) (μ 75) (μ 76) (μ 60 23).toNat (μ 60 23).toNat = lawS (μ 77) (μ 78) (fcV (μ 61) (μ 62) (μ 64) (μ 65) (μ 63) t q) (μ 74) (μ 75) (μ 76) (μ 60 23).toNat (μ 60 23 - i).toNat := hI
    have hi := hI.1
    refine tt_iload X rfl dX10_lets_117 ?_
    refine tt_aload_n X rfl dX10_lets_119 ?_
    refine tt_geti X fX10_114 (k_60 _ _) (by decide) (Or.inl rfl) dX10_lets_120 ?_
    try simp (disch := decide) only [ot_rd, ot_rs, ot_rf, ot_ucd, ot_ucs]
    refine tt_icmp_ge X 158 (by first | omega | (simp (disch := decide) only [ot_rd, ot_rs, ot_rf, ot_ucd, ot_ucs]; omega)) dX10_lets_123 (by decide) (fun b123 => ?_) (fun b123 => ?_)
    · refine tt_iconst X dX10_lets_158 ?_
      refine tt_zret X ⟨hr.1, hr.2.1⟩ (by omega) (by decide) (by decide) dX10_lets_159 ?_
      refine ⟨rfl, ?_, _, S, rfl⟩
      rw [hI.2, show (μ 60 23 - i).toNat = 0 by omega]
      rfl
    · have hLi := hL.2 i (by omega) (by omega)
      refine tt_aload_n X rfl dX10_lets_126 ?_
      refine tt_iconst X dX10_lets_127 ?_
      refine tt_iload X rfl dX10_lets_128 ?_
      refine tt_vi X rfl mX10_249 (q_isSo l g ln ext _ (fcV (μ 61) (μ 62) (μ 64) (μ 65) (μ 63) t q) i (μ 75 i) (μ 76 i) (by omega) (by simp (disch := decide) only [ot_ucd, ot_ucs, ot_rd, ot_rs, ot_rf, ot_rdf]) (by simp (disch := decide) only [ot_ucd, ot_ucs, ot_rd, ot_rs, ot_rf, ot_rdf]) (by simp (disch := decide) only [ot_ucd, ot_ucs, ot_rd, ot_rs, ot_rf, ot_rdf]; exact hLi.1) (by simp (disch := decide) only [ot_ucd, ot_ucs, ot_rd, ot_rs, ot_rf, ot_rdf]; exact hFV) hfr) (k_60 _ _) ⟨_, rfl, rfl⟩ rfl rfl (Nat.le_of_ble_eq_true rfl) (by decide) (by decide) (by decide) dX10_lets_130 (fun z130 L130 μ130 hp => ?_)
      obtain ⟨rfl, hz130, S2, rfl⟩ := hp
      simp (disch := decide) only [ot_ucd, ot_ucs, ot_rd, ot_rs, ot_rf, ot_rdf] at hz130
      refine tt_mem (μ' := ot_uc (ot_uc μ 80 FV) 81 S2) (by funext u; by_cases u1 : u = 81 <;> simp [ot_uc, u1]) ?_
      refine tt_if_eq X 152 (by first | omega | (simp (disch := decide) only [ot_rd, ot_rs, ot_rf, ot_ucd, ot_ucs]; omega)) dX10_lets_133 (by decide) (fun b133 => ?_) (fun b133 => ?_)
      · refine tt_iinc X dX10_lets_152 rfl (by decide) ?_
        refine tt_goto X 117 dX10_lets_155 (by decide) ?_
        refine tt_loc [(0, _), (1, _), (2, _), (5, _)] ⟨rfl, rfl, rfl, rfl, trivial⟩ ?_
        have hh : hold (μ 77) (μ 78) (fcV (μ 61) (μ 62) (μ 64) (μ 65) (μ 63) t q) (μ 75 i) (μ 76 i) = false := ite_nil hz130 (by omega)
        refine ih (i + 1, S2) ⟨by show 0 ≤ i + 1 ∧ i + 1 ≤ μ 60 23; omega, ?_⟩ (by show (μ 60 23 - (i + 1)).toNat < (μ 60 23 - i).toNat; omega)
        rw [hI.2, lawS_step (by omega), hh]; rfl
      · refine tt_aload_n X rfl dX10_lets_136 ?_
        refine tt_getr X fX10_53 (k_60 _ _) (by decide) ⟨nofun, nofun⟩ rfl dX10_lets_137 ?_
        refine tt_iload X rfl dX10_lets_140 ?_
        refine tt_iaload X (k_74 _ _) (by first | omega | (simp (disch := decide) only [ot_rd, ot_rs, ot_rf, ot_ucd, ot_ucs]; omega)) dX10_lets_142 ?_
        try simp (disch := decide) only [ot_rd, ot_rs, ot_rf, ot_ucd, ot_ucs]
        refine tt_if_ne X 150 (by first | omega | (simp (disch := decide) only [ot_rd, ot_rs, ot_rf, ot_ucd, ot_ucs]; omega)) dX10_lets_143 (by decide) (fun b143 => ?_) (fun b143 => ?_)
        · refine tt_iconst X dX10_lets_150 ?_
          refine tt_zret X ⟨hr.1, hr.2.1⟩ (by omega) (by decide) (by decide) dX10_lets_151 ?_
          have hh : hold (μ 77) (μ 78) (fcV (μ 61) (μ 62) (μ 64) (μ 65) (μ 63) t q) (μ 75 i) (μ 76 i) = true := ite_one hz130 (by omega)
          refine ⟨rfl, ?_, _, S2, rfl⟩
          rw [hI.2, lawS_step (by omega), hh]
          show _ = if μ 74 i = 0 then (1 : Int) else 0
          first | (rw [if_pos (by omega)]; done) | rw [if_neg (by omega)]
        · refine tt_iconst X dX10_lets_146 ?_
          refine tt_goto X 151 dX10_lets_147 (by decide) ?_
          refine tt_zret X ⟨hr.1, hr.2.1⟩ (by omega) (by decide) (by decide) dX10_lets_151 ?_
          have hh : hold (μ 77) (μ 78) (fcV (μ 61) (μ 62) (μ 64) (μ 65) (μ 63) t q) (μ 75 i) (μ 76 i) = true := ite_one hz130 (by omega)
          refine ⟨rfl, ?_, _, S2, rfl⟩
          rw [hI.2, lawS_step (by omega), hh]
          show _ = if μ 74 i = 0 then (1 : Int) else 0
          first | (rw [if_pos (by omega)]; done) | rw [if_neg (by omega)]
  · refine tt_aload_n X rfl dX10_lets_83 ?_
    refine tt_iload_n X rfl dX10_lets_84 ?_
    refine tt_iload_n X rfl dX10_lets_85 ?_
    refine tt_iconst X dX10_lets_86 ?_
    refine tt_isub X dX10_lets_87 ?_
    refine tt_vi X rfl mX10_239 (q_woundAt l g ln ext _ _ _ (by omega) (by omega)) (k_60 _ _) ⟨_, rfl, rfl⟩ rfl rfl (Nat.le_of_ble_eq_true rfl) (by decide) (by decide) (by decide) dX10_lets_88 (fun z88 L88 μ88 hp => ?_)
    obtain ⟨rfl, e88, hz88⟩ := hp
    replace e88 := e88.symm
    subst e88
    simp (disch := decide) only [ot_ucd, ot_ucs, ot_rd, ot_rs, ot_rf, ot_rdf] at hz88
    have hp88 := hWt.2.1 (μ 64 t - 2) (by omega) (by omega)
    refine tt_iload_n X rfl dX10_lets_91 ?_
    refine tt_icmp_ne X 99 (by first | omega | (simp (disch := decide) only [ot_rd, ot_rs, ot_rf, ot_ucd, ot_ucs]; omega)) dX10_lets_92 (by decide) (fun b92 => ?_) (fun b92 => ?_)
    · refine tt_iconst X dX10_lets_99 ?_
      refine tt_iastore X (k_80 _ _) (by first | omega | (simp (disch := decide) only [ot_rd, ot_rs, ot_rf, ot_ucd, ot_ucs]; omega)) dX10_lets_100 ?_
      refine tt_aload_n X rfl dX10_lets_101 ?_
      refine tt_getr X fX10_74 (k_60 _ _) (by decide) ⟨nofun, nofun⟩ rfl dX10_lets_102 ?_
      refine tt_bipush X (by decide) dX10_lets_105 ?_
      refine tt_aload_n X rfl dX10_lets_107 ?_
      refine tt_getr X fX10_20 (k_60 _ _) (by decide) ⟨nofun, nofun⟩ rfl dX10_lets_108 ?_
      refine tt_iload_n X rfl dX10_lets_111 ?_
      refine tt_iaload X (k_63 _ _) (by first | omega | (simp (disch := decide) only [ot_rd, ot_rs, ot_rf, ot_ucd, ot_ucs]; omega)) dX10_lets_112 ?_
      try simp (disch := decide) only [ot_rd, ot_rs, ot_rf, ot_ucd, ot_ucs]
      refine tt_iastore X (k_80 _ _) (by first | omega | (simp (disch := decide) only [ot_rd, ot_rs, ot_rf, ot_ucd, ot_ucs]; omega)) dX10_lets_113 ?_
      refine tt_iconst X dX10_lets_114 ?_
      refine tt_istore X dX10_lets_115 (by decide) ?_
      obtain ⟨FV, hFV, hMV⟩ : ∃ FV, (∀ j, 0 ≤ j → j < 8 → FV j = fcV (μ 61) (μ 62) (μ 64) (μ 65) (μ 63) t q j) ∧ (ot_up (ot_up (ot_up (ot_up (ot_up (ot_up (ot_up (ot_up μ 80 0 z12) 80 1 q) 80 2 z41) 80 3 z54) 80 4 t) 80 5 (μ 64 t)) 80 6 0) 80 7 (μ 63 t)) = ot_uc μ 80 FV := by
        refine ⟨up1 (up1 (up1 (up1 (up1 (up1 (up1 (up1 (μ 80) 0 z12) 1 q) 2 z41) 3 z54) 4 t) 5 (μ 64 t)) 6 0) 7 (μ 63 t), ?_, ?_⟩
        · intro j j1 j2
          rcases (show j = 0 ∨ j = 1 ∨ j = 2 ∨ j = 3 ∨ j = 4 ∨ j = 5 ∨ j = 6 ∨ j = 7 by omega) with rfl | rfl | rfl | rfl | rfl | rfl | rfl | rfl
          · simp (disch := decide) only [up1_s, up1_n]; exact hz12e
          · simp (disch := decide) only [up1_s, up1_n]; rfl
          · simp (disch := decide) only [up1_s, up1_n]
            simp (disch := decide) only [ot_rd, ot_rs, ot_rf] at hz41
            rw [hz41, hz12e]; rfl
          · simp (disch := decide) only [up1_s, up1_n]
            simp (disch := decide) only [ot_rd, ot_rs, ot_rf, ot_rdf] at hz54
            rw [hz54, hz12e]; rfl
          · simp (disch := decide) only [up1_s, up1_n]; rfl
          · simp (disch := decide) only [up1_s, up1_n]; rfl
          · simp (disch := decide) only [up1_s, up1_n]
            show _ = if 1 < μ 64 t ∧ μ 65 (120 * t + (μ 64 t - 2)) = q then (1 : Int) else 0
            first | rw [if_pos (by omega)] | rw [if_neg (by omega)]
          · simp (disch := decide) only [up1_s, up1_n]; rfl
        · rw [ot_up_uc (μ := μ)]
          simp only [ot_uc_up1]
      refine tt_mem (μ' := ot_uc (ot_uc μ 80 FV) 81 (μ 81)) (by rw [hMV]; exact (ot_uc_id (by simp (disch := decide) only [ot_ucd])).symm) ?_
      refine tt_loc [(0, _), (1, _), (2, _), (5, _)] ⟨rfl, rfl, rfl, rfl, trivial⟩ ?_
      refine tt_loop (α := Int × (Int → Int)) (fun ((i, S)) => (μ 60 23 - i).toNat) (fun ((i, S)) => (0 ≤ i ∧ i ≤ μ 60 23) ∧ lawS (μ 77) (μ 78) (fcV (μ 61) (μ 62) (μ 64) (μ 65) (μ 63) t q) (μ 74) (μ 75) (μ 76) (μ 60 23).toNat (μ 60 23).toNat = lawS (μ 77) (μ 78) (fcV (μ 61) (μ 62) (μ 64) (μ 65) (μ 63) t q) (μ 74) (μ 75) (μ 76) (μ 60 23).toNat (μ 60 23 - i).toNat) (fun ((i, S)) => ot_uc (ot_uc μ 80 FV) 81 S) (fun ((i, S)) => [(0, .inr 60), (1, .inl t), (2, .inl q), (5, .inl i)]) (0, μ 81) ⟨by show 0 ≤ (0 : Int) ∧ (0 : Int) ≤ μ 60 23; omega, by rw [Int.sub_zero]⟩ ?_
      intro a hI ih
      obtain ⟨i, S⟩ := a
      try dsimp only at hI ih ⊢
      replace hI : (0 ≤ i ∧ i ≤ μ 60 23) ∧ lawS (μ 77) (μ 78) (fcV (μ 61) (μ 62) (μ 64) (μ 65) (μ 63) t q) (μ 74) (μ 75) (μ 76) (μ 60 23).toNat (μ 60 23).toNat = lawS (μ 77) (μ 78) (fcV (μ 61) (μ 62) (μ 64) (μ 65) (μ 63) t q) (μ 74) (μ 75) (μ 76) (μ 60 23).toNat (μ 60 23 - i).toNat := hI
      have hi := hI.1
      refine tt_iload X rfl dX10_lets_117 ?_
      refine tt_aload_n X rfl dX10_lets_119 ?_
      refine tt_geti X fX10_114 (k_60 _ _) (by decide) (Or.inl rfl) dX10_lets_120 ?_
      try simp (disch := decide) only [ot_rd, ot_rs, ot_rf, ot_ucd, ot_ucs]
      refine tt_icmp_ge X 158 (by first | omega | (simp (disch := decide) only [ot_rd, ot_rs, ot_rf, ot_ucd, ot_ucs]; omega)) dX10_lets_123 (by decide) (fun b123 => ?_) (fun b123 => ?_)
      · refine tt_iconst X dX10_lets_158 ?_
        refine tt_zret X ⟨hr.1, hr.2.1⟩ (by omega) (by decide) (by decide) dX10_lets_159 ?_
        refine ⟨rfl, ?_, _, S, rfl⟩
        rw [hI.2, show (μ 60 23 - i).toNat = 0 by omega]
        rfl
      · have hLi := hL.2 i (by omega) (by omega)
        refine tt_aload_n X rfl dX10_lets_126 ?_
        refine tt_iconst X dX10_lets_127 ?_
        refine tt_iload X rfl dX10_lets_128 ?_
        refine tt_vi X rfl mX10_249 (q_isSo l g ln ext _ (fcV (μ 61) (μ 62) (μ 64) (μ 65) (μ 63) t q) i (μ 75 i) (μ 76 i) (by omega) (by simp (disch := decide) only [ot_ucd, ot_ucs, ot_rd, ot_rs, ot_rf, ot_rdf]) (by simp (disch := decide) only [ot_ucd, ot_ucs, ot_rd, ot_rs, ot_rf, ot_rdf]) (by simp (disch := decide) only [ot_ucd, ot_ucs, ot_rd, ot_rs, ot_rf, ot_rdf]; exact hLi.1) (by simp (disch := decide) only [ot_ucd, ot_ucs, ot_rd, ot_rs, ot_rf, ot_rdf]; exact hFV) hfr) (k_60 _ _) ⟨_, rfl, rfl⟩ rfl rfl (Nat.le_of_ble_eq_true rfl) (by decide) (by decide) (by decide) dX10_lets_130 (fun z130 L130 μ130 hp => ?_)
        obtain ⟨rfl, hz130, S2, rfl⟩ := hp
        simp (disch := decide) only [ot_ucd, ot_ucs, ot_rd, ot_rs, ot_rf, ot_rdf] at hz130
        refine tt_mem (μ' := ot_uc (ot_uc μ 80 FV) 81 S2) (by funext u; by_cases u1 : u = 81 <;> simp [ot_uc, u1]) ?_
        refine tt_if_eq X 152 (by first | omega | (simp (disch := decide) only [ot_rd, ot_rs, ot_rf, ot_ucd, ot_ucs]; omega)) dX10_lets_133 (by decide) (fun b133 => ?_) (fun b133 => ?_)
        · refine tt_iinc X dX10_lets_152 rfl (by decide) ?_
          refine tt_goto X 117 dX10_lets_155 (by decide) ?_
          refine tt_loc [(0, _), (1, _), (2, _), (5, _)] ⟨rfl, rfl, rfl, rfl, trivial⟩ ?_
          have hh : hold (μ 77) (μ 78) (fcV (μ 61) (μ 62) (μ 64) (μ 65) (μ 63) t q) (μ 75 i) (μ 76 i) = false := ite_nil hz130 (by omega)
          refine ih (i + 1, S2) ⟨by show 0 ≤ i + 1 ∧ i + 1 ≤ μ 60 23; omega, ?_⟩ (by show (μ 60 23 - (i + 1)).toNat < (μ 60 23 - i).toNat; omega)
          rw [hI.2, lawS_step (by omega), hh]; rfl
        · refine tt_aload_n X rfl dX10_lets_136 ?_
          refine tt_getr X fX10_53 (k_60 _ _) (by decide) ⟨nofun, nofun⟩ rfl dX10_lets_137 ?_
          refine tt_iload X rfl dX10_lets_140 ?_
          refine tt_iaload X (k_74 _ _) (by first | omega | (simp (disch := decide) only [ot_rd, ot_rs, ot_rf, ot_ucd, ot_ucs]; omega)) dX10_lets_142 ?_
          try simp (disch := decide) only [ot_rd, ot_rs, ot_rf, ot_ucd, ot_ucs]
          refine tt_if_ne X 150 (by first | omega | (simp (disch := decide) only [ot_rd, ot_rs, ot_rf, ot_ucd, ot_ucs]; omega)) dX10_lets_143 (by decide) (fun b143 => ?_) (fun b143 => ?_)
          · refine tt_iconst X dX10_lets_150 ?_
            refine tt_zret X ⟨hr.1, hr.2.1⟩ (by omega) (by decide) (by decide) dX10_lets_151 ?_
            have hh : hold (μ 77) (μ 78) (fcV (μ 61) (μ 62) (μ 64) (μ 65) (μ 63) t q) (μ 75 i) (μ 76 i) = true := ite_one hz130 (by omega)
            refine ⟨rfl, ?_, _, S2, rfl⟩
            rw [hI.2, lawS_step (by omega), hh]
            show _ = if μ 74 i = 0 then (1 : Int) else 0
            first | (rw [if_pos (by omega)]; done) | rw [if_neg (by omega)]
          · refine tt_iconst X dX10_lets_146 ?_
            refine tt_goto X 151 dX10_lets_147 (by decide) ?_
            refine tt_zret X ⟨hr.1, hr.2.1⟩ (by omega) (by decide) (by decide) dX10_lets_151 ?_
            have hh : hold (μ 77) (μ 78) (fcV (μ 61) (μ 62) (μ 64) (μ 65) (μ 63) t q) (μ 75 i) (μ 76 i) = true := ite_one hz130 (by omega)
            refine ⟨rfl, ?_, _, S2, rfl⟩
            rw [hI.2, lawS_step (by omega), hh]
            show _ = if μ 74 i = 0 then (1 : Int) else 0
            first | (rw [if_pos (by omega)]; done) | rw [if_neg (by omega)]
    · refine tt_iconst X dX10_lets_95 ?_
      refine tt_goto X 100 dX10_lets_96 (by decide) ?_
      refine tt_iastore X (k_80 _ _) (by first | omega | (simp (disch := decide) only [ot_rd, ot_rs, ot_rf, ot_ucd, ot_ucs]; omega)) dX10_lets_100 ?_
      refine tt_aload_n X rfl dX10_lets_101 ?_
      refine tt_getr X fX10_74 (k_60 _ _) (by decide) ⟨nofun, nofun⟩ rfl dX10_lets_102 ?_
      refine tt_bipush X (by decide) dX10_lets_105 ?_
      refine tt_aload_n X rfl dX10_lets_107 ?_
      refine tt_getr X fX10_20 (k_60 _ _) (by decide) ⟨nofun, nofun⟩ rfl dX10_lets_108 ?_
      refine tt_iload_n X rfl dX10_lets_111 ?_
      refine tt_iaload X (k_63 _ _) (by first | omega | (simp (disch := decide) only [ot_rd, ot_rs, ot_rf, ot_ucd, ot_ucs]; omega)) dX10_lets_112 ?_
      try simp (disch := decide) only [ot_rd, ot_rs, ot_rf, ot_ucd, ot_ucs]
      refine tt_iastore X (k_80 _ _) (by first | omega | (simp (disch := decide) only [ot_rd, ot_rs, ot_rf, ot_ucd, ot_ucs]; omega)) dX10_lets_113 ?_
      refine tt_iconst X dX10_lets_114 ?_
      refine tt_istore X dX10_lets_115 (by decide) ?_
      obtain ⟨FV, hFV, hMV⟩ : ∃ FV, (∀ j, 0 ≤ j → j < 8 → FV j = fcV (μ 61) (μ 62) (μ 64) (μ 65) (μ 63) t q j) ∧ (ot_up (ot_up (ot_up (ot_up (ot_up (ot_up (ot_up (ot_up μ 80 0 z12) 80 1 q) 80 2 z41) 80 3 z54) 80 4 t) 80 5 (μ 64 t)) 80 6 1) 80 7 (μ 63 t)) = ot_uc μ 80 FV := by
        refine ⟨up1 (up1 (up1 (up1 (up1 (up1 (up1 (up1 (μ 80) 0 z12) 1 q) 2 z41) 3 z54) 4 t) 5 (μ 64 t)) 6 1) 7 (μ 63 t), ?_, ?_⟩
        · intro j j1 j2
          rcases (show j = 0 ∨ j = 1 ∨ j = 2 ∨ j = 3 ∨ j = 4 ∨ j = 5 ∨ j = 6 ∨ j = 7 by omega) with rfl | rfl | rfl | rfl | rfl | rfl | rfl | rfl
          · simp (disch := decide) only [up1_s, up1_n]; exact hz12e
          · simp (disch := decide) only [up1_s, up1_n]; rfl
          · simp (disch := decide) only [up1_s, up1_n]
            simp (disch := decide) only [ot_rd, ot_rs, ot_rf] at hz41
            rw [hz41, hz12e]; rfl
          · simp (disch := decide) only [up1_s, up1_n]
            simp (disch := decide) only [ot_rd, ot_rs, ot_rf, ot_rdf] at hz54
            rw [hz54, hz12e]; rfl
          · simp (disch := decide) only [up1_s, up1_n]; rfl
          · simp (disch := decide) only [up1_s, up1_n]; rfl
          · simp (disch := decide) only [up1_s, up1_n]
            show _ = if 1 < μ 64 t ∧ μ 65 (120 * t + (μ 64 t - 2)) = q then (1 : Int) else 0
            first | rw [if_pos (by omega)] | rw [if_neg (by omega)]
          · simp (disch := decide) only [up1_s, up1_n]; rfl
        · rw [ot_up_uc (μ := μ)]
          simp only [ot_uc_up1]
      refine tt_mem (μ' := ot_uc (ot_uc μ 80 FV) 81 (μ 81)) (by rw [hMV]; exact (ot_uc_id (by simp (disch := decide) only [ot_ucd])).symm) ?_
      refine tt_loc [(0, _), (1, _), (2, _), (5, _)] ⟨rfl, rfl, rfl, rfl, trivial⟩ ?_
      refine tt_loop (α := Int × (Int → Int)) (fun ((i, S)) => (μ 60 23 - i).toNat) (fun ((i, S)) => (0 ≤ i ∧ i ≤ μ 60 23) ∧ lawS (μ 77) (μ 78) (fcV (μ 61) (μ 62) (μ 64) (μ 65) (μ 63) t q) (μ 74) (μ 75) (μ 76) (μ 60 23).toNat (μ 60 23).toNat = lawS (μ 77) (μ 78) (fcV (μ 61) (μ 62) (μ 64) (μ 65) (μ 63) t q) (μ 74) (μ 75) (μ 76) (μ 60 23).toNat (μ 60 23 - i).toNat) (fun ((i, S)) => ot_uc (ot_uc μ 80 FV) 81 S) (fun ((i, S)) => [(0, .inr 60), (1, .inl t), (2, .inl q), (5, .inl i)]) (0, μ 81) ⟨by show 0 ≤ (0 : Int) ∧ (0 : Int) ≤ μ 60 23; omega, by rw [Int.sub_zero]⟩ ?_
      intro a hI ih
      obtain ⟨i, S⟩ := a
      try dsimp only at hI ih ⊢
      replace hI : (0 ≤ i ∧ i ≤ μ 60 23) ∧ lawS (μ 77) (μ 78) (fcV (μ 61) (μ 62) (μ 64) (μ 65) (μ 63) t q) (μ 74) (μ 75) (μ 76) (μ 60 23).toNat (μ 60 23).toNat = lawS (μ 77) (μ 78) (fcV (μ 61) (μ 62) (μ 64) (μ 65) (μ 63) t q) (μ 74) (μ 75) (μ 76) (μ 60 23).toNat (μ 60 23 - i).toNat := hI
      have hi := hI.1
      refine tt_iload X rfl dX10_lets_117 ?_
      refine tt_aload_n X rfl dX10_lets_119 ?_
      refine tt_geti X fX10_114 (k_60 _ _) (by decide) (Or.inl rfl) dX10_lets_120 ?_
      try simp (disch := decide) only [ot_rd, ot_rs, ot_rf, ot_ucd, ot_ucs]
      refine tt_icmp_ge X 158 (by first | omega | (simp (disch := decide) only [ot_rd, ot_rs, ot_rf, ot_ucd, ot_ucs]; omega)) dX10_lets_123 (by decide) (fun b123 => ?_) (fun b123 => ?_)
      · refine tt_iconst X dX10_lets_158 ?_
        refine tt_zret X ⟨hr.1, hr.2.1⟩ (by omega) (by decide) (by decide) dX10_lets_159 ?_
        refine ⟨rfl, ?_, _, S, rfl⟩
        rw [hI.2, show (μ 60 23 - i).toNat = 0 by omega]
        rfl
      · have hLi := hL.2 i (by omega) (by omega)
        refine tt_aload_n X rfl dX10_lets_126 ?_
        refine tt_iconst X dX10_lets_127 ?_
        refine tt_iload X rfl dX10_lets_128 ?_
        refine tt_vi X rfl mX10_249 (q_isSo l g ln ext _ (fcV (μ 61) (μ 62) (μ 64) (μ 65) (μ 63) t q) i (μ 75 i) (μ 76 i) (by omega) (by simp (disch := decide) only [ot_ucd, ot_ucs, ot_rd, ot_rs, ot_rf, ot_rdf]) (by simp (disch := decide) only [ot_ucd, ot_ucs, ot_rd, ot_rs, ot_rf, ot_rdf]) (by simp (disch := decide) only [ot_ucd, ot_ucs, ot_rd, ot_rs, ot_rf, ot_rdf]; exact hLi.1) (by simp (disch := decide) only [ot_ucd, ot_ucs, ot_rd, ot_rs, ot_rf, ot_rdf]; exact hFV) hfr) (k_60 _ _) ⟨_, rfl, rfl⟩ rfl rfl (Nat.le_of_ble_eq_true rfl) (by decide) (by decide) (by decide) dX10_lets_130 (fun z130 L130 μ130 hp => ?_)
        obtain ⟨rfl, hz130, S2, rfl⟩ := hp
        simp (disch := decide) only [ot_ucd, ot_ucs, ot_rd, ot_rs, ot_rf, ot_rdf] at hz130
        refine tt_mem (μ' := ot_uc (ot_uc μ 80 FV) 81 S2) (by funext u; by_cases u1 : u = 81 <;> simp [ot_uc, u1]) ?_
        refine tt_if_eq X 152 (by first | omega | (simp (disch := decide) only [ot_rd, ot_rs, ot_rf, ot_ucd, ot_ucs]; omega)) dX10_lets_133 (by decide) (fun b133 => ?_) (fun b133 => ?_)
        · refine tt_iinc X dX10_lets_152 rfl (by decide) ?_
          refine tt_goto X 117 dX10_lets_155 (by decide) ?_
          refine tt_loc [(0, _), (1, _), (2, _), (5, _)] ⟨rfl, rfl, rfl, rfl, trivial⟩ ?_
          have hh : hold (μ 77) (μ 78) (fcV (μ 61) (μ 62) (μ 64) (μ 65) (μ 63) t q) (μ 75 i) (μ 76 i) = false := ite_nil hz130 (by omega)
          refine ih (i + 1, S2) ⟨by show 0 ≤ i + 1 ∧ i + 1 ≤ μ 60 23; omega, ?_⟩ (by show (μ 60 23 - (i + 1)).toNat < (μ 60 23 - i).toNat; omega)
          rw [hI.2, lawS_step (by omega), hh]; rfl
        · refine tt_aload_n X rfl dX10_lets_136 ?_
          refine tt_getr X fX10_53 (k_60 _ _) (by decide) ⟨nofun, nofun⟩ rfl dX10_lets_137 ?_
          refine tt_iload X rfl dX10_lets_140 ?_
          refine tt_iaload X (k_74 _ _) (by first | omega | (simp (disch := decide) only [ot_rd, ot_rs, ot_rf, ot_ucd, ot_ucs]; omega)) dX10_lets_142 ?_
          try simp (disch := decide) only [ot_rd, ot_rs, ot_rf, ot_ucd, ot_ucs]
          refine tt_if_ne X 150 (by first | omega | (simp (disch := decide) only [ot_rd, ot_rs, ot_rf, ot_ucd, ot_ucs]; omega)) dX10_lets_143 (by decide) (fun b143 => ?_) (fun b143 => ?_)
          · refine tt_iconst X dX10_lets_150 ?_
            refine tt_zret X ⟨hr.1, hr.2.1⟩ (by omega) (by decide) (by decide) dX10_lets_151 ?_
            have hh : hold (μ 77) (μ 78) (fcV (μ 61) (μ 62) (μ 64) (μ 65) (μ 63) t q) (μ 75 i) (μ 76 i) = true := ite_one hz130 (by omega)
            refine ⟨rfl, ?_, _, S2, rfl⟩
            rw [hI.2, lawS_step (by omega), hh]
            show _ = if μ 74 i = 0 then (1 : Int) else 0
            first | (rw [if_pos (by omega)]; done) | rw [if_neg (by omega)]
          · refine tt_iconst X dX10_lets_146 ?_
            refine tt_goto X 151 dX10_lets_147 (by decide) ?_
            refine tt_zret X ⟨hr.1, hr.2.1⟩ (by omega) (by decide) (by decide) dX10_lets_151 ?_
            have hh : hold (μ 77) (μ 78) (fcV (μ 61) (μ 62) (μ 64) (μ 65) (μ 63) t q) (μ 75 i) (μ 76 i) = true := ite_one hz130 (by omega)
            refine ⟨rfl, ?_, _, S2, rfl⟩
            rw [hI.2, lawS_step (by omega), hh]
            show _ = if μ 74 i = 0 then (1 : Int) else 0
            first | (rw [if_pos (by omega)]; done) | rw [if_neg (by omega)]

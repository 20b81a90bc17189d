theorem knF_nil {J : Nat → Nat} {od : Nat} (h : J = fun _ => 0) : (knF J od 24).2.1 = 0 := by
  have := knF_skip (J := J) (od := od) (p := 0) 24 (fun i _ _ => .inl (by rw [h]))
  rw [Nat.zero_add] at this
  rw [this]
  rfl
set_option maxRecDepth 100000 in
set_option maxHeartbeats 1000000 in
theorem q_order (l : Launch) (g : ot_G) (ln : Nat) (ext : ot_L) (μ : ot_M) (h0 : μ 60 0 = 0) (i : Int) (hi : -2147483648 ≤ i ∧ i ≤ 2147483647)(hN : gNet (μ 60 11) (μ 69) (μ 70)) (J : Nat → Nat) (hJe : J = joN (nA (μ 69)) (nA (μ 70)) (μ 60 11).toNat) (od : Nat) (hode : od = oddN (nA (μ 69)) (nA (μ 70)) (2 ^ (μ 60 11).toNat - 1) (μ 60 11).toNat)  : ot_C l g yX10_order cX10_order 6 (some .int) 3 0 0 [.inr 60, .inl i] (LL ln ext) μ (ot_pi (fun r L2 μ2 => L2 = LL ln ext ∧ μ2 = μ ∧ r = (if ((knF J od 24).2.1 = 1 ∧ 0 ≤ i ∧ i ≤ μ 60 11) then ((wyN J (stA J od) i.toNat).1 : Int) else -1))) := by
  refine ot_enter (by decide) (Nat.le_of_ble_eq_true rfl) ?_
  intro p e s m args below meth c X hr
  have hM := hN.1
  have hw := hN.2.2
  have hal := all_q hM
  have hJ0 := joN_is hw
  rw [← hJe] at hJ0
  have hlt : ∀ u, J u < 16777216 := fun u => by rw [hJe]; exact joN_lt hw (Nat.le_refl _) u
  have hodl : od < 16777216 := by rw [hode]; exact oddN_lt hw _ (Nat.le_refl _)
  have hkb := knF_bound (od := od) hw hJ0
  have hk0 : μ 60 11 = 0 → (knF J od 24).2.1 = 0 := fun h => knF_nil (by rw [hJe, h]; rfl)
  refine tt_aload_n X rfl dX10_order_0 ?_
  refine tt_iconst X dX10_order_1 ?_
  refine tt_puti X fX10_98 kc_10 (k_60 _ _) (by decide) (fun q hq => by cases hq; rfl) rfl dX10_order_2 ?_
  refine tt_mem (ot_nop h0) ?_
  refine tt_aload_n X rfl dX10_order_5 ?_
  refine tt_geti X fX10_108 (k_60 _ _) (by decide) (Or.inl rfl) dX10_order_6 ?_
  refine tt_if_eq X 33 (by omega) dX10_order_9 (by decide) (fun b9 => ?_) (fun b9 => ?_)
  · refine tt_iconst X dX10_order_33 ?_
    refine tt_iret X ⟨hr.1, hr.2.1⟩ (by decide) (by decide) dX10_order_34 ?_
    exact ⟨rfl, rfl, by rw [if_neg]; intro w; first | omega | (have := hk0 (by omega); omega)⟩
  · refine tt_aload_n X rfl dX10_order_12 ?_
    refine tt_vi X rfl mX10_299 (q_threadsNeeded l g ln ext _ hN J hJe od hode) (k_60 _ _) ⟨_, rfl, rfl⟩ rfl rfl (Nat.le_of_ble_eq_true rfl) (by decide) (by decide) (by decide) dX10_order_13 (fun z13 L13 μ13 hp => ?_)
    obtain ⟨rfl, e13, hz13⟩ := hp
    replace e13 := e13.symm
    subst e13
    try simp (disch := decide) only [ot_rd, ot_rs, ot_rf, ot_ucd, ot_ucs] at hz13
    refine tt_iconst X dX10_order_16 ?_
    refine tt_icmp_ne X 33 (by first | omega | (simp (disch := decide) only [ot_rd, ot_rs, ot_rf, ot_ucd, ot_ucs]; omega)) dX10_order_17 (by decide) (fun b17 => ?_) (fun b17 => ?_)
    · refine tt_iconst X dX10_order_33 ?_
      refine tt_iret X ⟨hr.1, hr.2.1⟩ (by decide) (by decide) dX10_order_34 ?_
      exact ⟨rfl, rfl, by rw [if_neg]; intro w; first | omega | (have := hk0 (by omega); omega)⟩
    · refine tt_aload_n X rfl dX10_order_20 ?_
      refine tt_iload_n X rfl dX10_order_21 ?_
      refine tt_iconst X dX10_order_22 ?_
      refine tt_aload_n X rfl dX10_order_23 ?_
      refine tt_geti X fX10_108 (k_60 _ _) (by decide) (Or.inl rfl) dX10_order_24 ?_
      try simp (disch := decide) only [ot_rd, ot_rs, ot_rf, ot_ucd, ot_ucs]
      refine tt_vi X rfl mX10_104 (q_isIn l g ln ext _ _ _ _ (by first | omega | (simp (disch := decide) only [ot_rd, ot_rs, ot_rf, ot_ucd, ot_ucs]; omega)) (by first | omega | (simp (disch := decide) only [ot_rd, ot_rs, ot_rf, ot_ucd, ot_ucs]; omega)) (by first | omega | (simp (disch := decide) only [ot_rd, ot_rs, ot_rf, ot_ucd, ot_ucs]; omega))) (k_60 _ _) ⟨_, rfl, rfl⟩ rfl rfl (Nat.le_of_ble_eq_true rfl) (by decide) (by decide) (by decide) dX10_order_27 (fun z27 L27 μ27 hp => ?_)
      obtain ⟨rfl, e27, hz27⟩ := hp
      replace e27 := e27.symm
      subst e27
      try simp (disch := decide) only [ot_rd, ot_rs, ot_rf, ot_ucd, ot_ucs] at hz27
      refine tt_if_ne X 35 (by first | omega | (simp (disch := decide) only [ot_rd, ot_rs, ot_rf, ot_ucd, ot_ucs]; omega)) dX10_order_30 (by decide) (fun b30 => ?_) (fun b30 => ?_)
      · have h1t : (knF J od 24).2.1 = 1 := by omega
        have hot := one_thread hw hJ0 hode h1t
        have hsq := start_q hw hJ0 hode h1t
        have ha24 := hot.1.2.1
        refine tt_aload_n X rfl dX10_order_35 ?_
        refine tt_vi X rfl mX10_278 (q_allLines l g ln ext _) (k_60 _ _) ⟨_, rfl, rfl⟩ rfl rfl (Nat.le_of_ble_eq_true rfl) (by decide) (by decide) (by decide) dX10_order_36 (fun z36 L36 μ36 hp => ?_)
        obtain ⟨rfl, e36, hz36⟩ := hp
        replace e36 := e36.symm
        subst e36
        rw [hal.1] at hz36
        refine tt_top hz36 ?_
        try simp (disch := decide) only [ot_rd, ot_rs, ot_rf, ot_ucd, ot_ucs] at hz36
        refine tt_istore_n X dX10_order_39 (by decide) ?_
        refine tt_iconst X dX10_order_40 ?_
        refine tt_istore_n X dX10_order_41 (by decide) ?_
        refine tt_loc [(0, _), (1, _), (2, _), (3, _)] ⟨rfl, rfl, rfl, rfl, trivial⟩ ?_
        refine tt_loop (α := Nat) (fun a => 24 - a) (fun a => a ≤ stA J od) (fun a => μ) (fun a => [(0, .inr 60), (1, .inl i), (2, .inl ((2 ^ (μ 60 11).toNat - 1 : Nat) : Int)), (3, .inl (a : Int))]) 0 (Nat.zero_le _) ?_
        intro a hI ih
        try dsimp only at hI ih ⊢
        have haS := hI
        refine tt_aload_n X rfl dX10_order_42 ?_
        refine tt_iload_n X rfl dX10_order_43 ?_
        refine tt_vi X rfl mX10_281 (q_pinsOf l g ln ext _ (2 ^ (μ 60 11).toNat - 1) hal.2 hN) (k_60 _ _) ⟨_, rfl, rfl⟩ rfl rfl (Nat.le_of_ble_eq_true rfl) (by decide) (by decide) (by decide) dX10_order_44 (fun z44 L44 μ44 hp => ?_)
        obtain ⟨rfl, e44, hz44⟩ := hp
        replace e44 := e44.symm
        subst e44
        refine tt_top hz44 ?_
        try simp (disch := decide) only [ot_rd, ot_rs, ot_rf, ot_ucd, ot_ucs] at hz44
        refine tt_iload_n X rfl dX10_order_47 ?_
        refine tt_ishr X dX10_order_48 ?_
        refine tt_iconst X dX10_order_49 ?_
        refine tt_iand X dX10_order_50 ?_
        have hpl := pinN_lt (S := 2 ^ (μ 60 11).toNat - 1) hw _ (Nat.le_refl _)
        refine tt_top (nt_test (m := (pinN (nA (μ 69)) (nA (μ 70)) (2 ^ (μ 60 11).toNat - 1) (μ 60 11).toNat)) (i := a) (by omega) (by omega)) ?_
        refine tt_if_eq X 63 (by split <;> omega) dX10_order_51 (by decide) (fun b51 => ?_) (fun b51 => ?_)
        · refine tt_iload_n X rfl dX10_order_63 ?_
          refine tt_iconst X dX10_order_64 ?_
          refine tt_iadd X dX10_order_65 ?_
          refine tt_istore_n X dX10_order_66 (by decide) ?_
          refine tt_goto X 42 dX10_order_67 (by decide) ?_
          refine tt_loc [(0, _), (1, _), (2, _), (3, _)] ⟨rfl, rfl, rfl, rfl, trivial⟩ ?_
          have hne : a ≠ stA J od := by
            intro w
            subst w
            have q := hsq.1
            rw [Bool.and_eq_true] at q
            first
              | (rw [q.1] at b51; simp at b51; done)
              | (rw [q.2] at hz57; simp at hz57; omega)
          exact ih (a + 1) (by omega) (by omega)
        · refine tt_aload_n X rfl dX10_order_54 ?_
          refine tt_iload_n X rfl dX10_order_55 ?_
          refine tt_iload_n X rfl dX10_order_56 ?_
          refine tt_vi X rfl mX10_305 (q_canGoAll l g ln ext _ a (by omega) (2 ^ (μ 60 11).toNat - 1) hal.2 hN) (k_60 _ _) ⟨_, rfl, rfl⟩ rfl rfl (Nat.le_of_ble_eq_true rfl) (by decide) (by decide) (by decide) dX10_order_57 (fun z57 L57 μ57 hp => ?_)
          obtain ⟨rfl, e57, hz57⟩ := hp
          replace e57 := e57.symm
          subst e57
          try simp (disch := decide) only [ot_rd, ot_rs, ot_rf, ot_ucd, ot_ucs] at hz57
          refine tt_if_ne X 70 (by rw [hz57]; split <;> omega) dX10_order_60 (by decide) (fun b60 => ?_) (fun b60 => ?_)
          · refine tt_iconst X dX10_order_70 ?_
            refine tt_istore X dX10_order_71 (by decide) ?_
            have haE : a = stA J od := by
              apply Classical.byContradiction
              intro w
              have q := hsq.2 a (by omega)
              have q1 : (pinN (nA (μ 69)) (nA (μ 70)) (2 ^ (μ 60 11).toNat - 1) (μ 60 11).toNat).testBit a = true := by
                cases w1 : (pinN (nA (μ 69)) (nA (μ 70)) (2 ^ (μ 60 11).toNat - 1) (μ 60 11).toNat).testBit a
                · rw [w1] at b51; simp at b51
                · rfl
              have q2 : cgB (nA (μ 69)) (nA (μ 70)) (μ 60 11).toNat (2 ^ (μ 60 11).toNat - 1) a = true := by
                cases w1 : cgB (nA (μ 69)) (nA (μ 70)) (μ 60 11).toNat (2 ^ (μ 60 11).toNat - 1) a
                · rw [w1] at hz57; simp at hz57; omega
                · rfl
              rw [q1, q2] at q
              cases q
            subst haE
            refine tt_loc [(0, _), (1, _), (2, _), (3, _), (4, _)] ⟨rfl, rfl, rfl, rfl, rfl, trivial⟩ ?_
            refine tt_loop (α := Nat × Nat) (fun ((k, S)) => i.toNat - k) (fun ((k, S)) => (k : Int) ≤ i ∧ goF (nA (μ 69)) (nA (μ 70)) (μ 60 11).toNat S (wyN J (stA J od) k).1 (wyN J (stA J od) k).2 ∧ cnt S (μ 60 11).toNat + k = (μ 60 11).toNat ∧ S < 1048576) (fun ((k, S)) => μ) (fun ((k, S)) => [(0, .inr 60), (1, .inl i), (2, .inl (S : Int)), (3, .inl ((wyN J (stA J od) k).1 : Int)), (4, .inl (k : Int))]) (0, 2 ^ (μ 60 11).toNat - 1) ⟨by show ((0 : Nat) : Int) ≤ _; omega, hot.1, by show cnt (2 ^ (μ 60 11).toNat - 1) (μ 60 11).toNat + 0 = (μ 60 11).toNat; rw [cnt_all _ _ (Nat.le_refl _)]; omega, hal.2⟩ ?_
            intro a hI2 ih2
            obtain ⟨k, S⟩ := a
            try dsimp only at hI2 ih2 ⊢
            replace hI2 : (k : Int) ≤ i ∧ goF (nA (μ 69)) (nA (μ 70)) (μ 60 11).toNat S (wyN J (stA J od) k).1 (wyN J (stA J od) k).2 ∧ cnt S (μ 60 11).toNat + k = (μ 60 11).toNat ∧ S < 1048576 := hI2
            have hki := hI2.1
            have hg2 := hI2.2.1
            have hcS := hI2.2.2.1
            have hSl := hI2.2.2.2
            have hw24 := hg2.2.1
            refine tt_iload X rfl dX10_order_73 ?_
            refine tt_iload_n X rfl dX10_order_75 ?_
            refine tt_icmp_ge X 150 (by first | omega | (simp (disch := decide) only [ot_rd, ot_rs, ot_rf, ot_ucd, ot_ucs]; omega)) dX10_order_76 (by decide) (fun b76 => ?_) (fun b76 => ?_)
            · refine tt_iload_n X rfl dX10_order_150 ?_
              refine tt_iret X ⟨hr.1, hr.2.1⟩ (by decide) (by decide) dX10_order_151 ?_
              have hke : k = i.toNat := by omega
              refine ⟨rfl, rfl, ?_⟩
              rw [if_pos ⟨h1t, by omega, by omega⟩, hke]
            · refine tt_iconst X dX10_order_79 ?_
              refine tt_istore X dX10_order_80 (by decide) ?_
              have hst := stp_ok hw hg2 (cnt_pos (μ 60 11).toNat (by omega))
              refine tt_loc [(0, _), (1, _), (2, _), (3, _), (4, _), (5, _)] ⟨rfl, rfl, rfl, rfl, rfl, rfl, trivial⟩ ?_
              refine tt_loop (α := Nat) (fun t => 24 - t) (fun t => t ≤ stp (wyN J (stA J od) k).2 (wyN J (stA J od) k).1) (fun t => μ) (fun t => [(0, .inr 60), (1, .inl i), (2, .inl (S : Int)), (3, .inl ((wyN J (stA J od) k).1 : Int)), (4, .inl (k : Int)), (5, .inl (t : Int))]) 0 (Nat.zero_le _) ?_
              intro t hI3 ih3
              try dsimp only at hI3 ih3 ⊢
              have ht24 : t < 24 := by have := hst.1; omega
              refine tt_aload_n X rfl dX10_order_82 ?_
              refine tt_iload_n X rfl dX10_order_83 ?_
              refine tt_iload X rfl dX10_order_84 ?_
              refine tt_iload_n X rfl dX10_order_86 ?_
              refine tt_vi X rfl mX10_308 (q_lineBetween l g ln ext _ (wyN J (stA J od) k).1 t (by omega) (by omega) S hSl hN) (k_60 _ _) ⟨_, rfl, rfl⟩ rfl rfl (Nat.le_of_ble_eq_true rfl) (by decide) (by decide) (by decide) dX10_order_87 (fun z87 L87 μ87 hp => ?_)
              obtain ⟨rfl, e87, hz87⟩ := hp
              replace e87 := e87.symm
              subst e87
              try simp (disch := decide) only [ot_rd, ot_rs, ot_rf, ot_ucd, ot_ucs] at hz87
              refine tt_iconst X dX10_order_90 ?_
              refine tt_icmp_eq X 117 (by rw [hz87]; split <;> omega) dX10_order_91 (by decide) (fun b91 => ?_) (fun b91 => ?_)
              · refine tt_iload X rfl dX10_order_117 ?_
                refine tt_iconst X dX10_order_119 ?_
                refine tt_iadd X dX10_order_120 ?_
                refine tt_istore X dX10_order_121 (by decide) ?_
                refine tt_goto X 82 dX10_order_123 (by decide) ?_
                refine tt_loc [(0, _), (1, _), (2, _), (3, _), (4, _), (5, _)] ⟨rfl, rfl, rfl, rfl, rfl, rfl, trivial⟩ ?_
                have hne : t ≠ stp (wyN J (stA J od) k).2 (wyN J (stA J od) k).1 := by
                  intro w
                  have q := hst.2.1
                  rw [← w] at q
                  first
                    | (rw [hsq1.2] at q
                       rw [q] at hz111; simp at hz111; omega)
                    | (have q2 : ¬ lbN (nA (μ 69)) (nA (μ 70)) S (μ 60 11).toNat (wyN J (stA J od) k).1 t < (μ 60 11).toNat := by
                         intro w2
                         rw [if_pos w2] at hz87
                         omega
                       rw [(stq hw hg2 (show t < 24 by omega)).2 q2] at q
                       cases q)
                exact ih3 (t + 1) (by omega) (by omega)
              · have hlM : lbN (nA (μ 69)) (nA (μ 70)) S (μ 60 11).toNat (wyN J (stA J od) k).1 t < (μ 60 11).toNat := by
                  apply Classical.byContradiction
                  intro w
                  rw [if_neg w] at hz87
                  omega
                have hsq1 := (stq hw hg2 (show t < 24 by omega)).1 hlM
                have hl31 : lbN (nA (μ 69)) (nA (μ 70)) S (μ 60 11).toNat (wyN J (stA J od) k).1 t < 24 := by omega
                have hpk := nt_p hl31
                have hdel : anN S (2 ^ lbN (nA (μ 69)) (nA (μ 70)) S (μ 60 11).toNat (wyN J (stA J od) k).1 t) = S ^^^ 2 ^ lbN (nA (μ 69)) (nA (μ 70)) S (μ 60 11).toNat (wyN J (stA J od) k).1 t := by
                  refine Nat.eq_of_testBit_eq (fun u => ?_)
                  rw [tb_an, tb_p, tb_x]
                  by_cases w : lbN (nA (μ 69)) (nA (μ 70)) S (μ 60 11).toNat (wyN J (stA J od) k).1 t = u
                  · rw [if_pos w, decide_eq_true w, ← w, hsq1.1]; rfl
                  · rw [if_neg w, decide_eq_false w]; simp
                have hdl : S ^^^ 2 ^ lbN (nA (μ 69)) (nA (μ 70)) S (μ 60 11).toNat (wyN J (stA J od) k).1 t < 1048576 := Nat.xor_lt_two_pow (n := 20) hSl (Nat.pow_lt_pow_right (by decide) (by omega))
                refine tt_aload_n X rfl dX10_order_94 ?_
                refine tt_iload X rfl dX10_order_95 ?_
                refine tt_iload_n X rfl dX10_order_97 ?_
                refine tt_iconst X dX10_order_98 ?_
                refine tt_aload_n X rfl dX10_order_99 ?_
                refine tt_iload_n X rfl dX10_order_100 ?_
                refine tt_iload X rfl dX10_order_101 ?_
                refine tt_iload_n X rfl dX10_order_103 ?_
                refine tt_vi X rfl mX10_308 (q_lineBetween l g ln ext _ (wyN J (stA J od) k).1 t (by omega) (by omega) S hSl hN) (k_60 _ _) ⟨_, rfl, rfl⟩ rfl rfl (Nat.le_of_ble_eq_true rfl) (by decide) (by decide) (by decide) dX10_order_104 (fun z104 L104 μ104 hp => ?_)
                obtain ⟨rfl, e104, hz104⟩ := hp
                replace e104 := e104.symm
                subst e104
                try simp (disch := decide) only [ot_rd, ot_rs, ot_rf, ot_ucd, ot_ucs] at hz104
                rw [if_pos hlM] at hz104
                refine tt_top hz104 ?_
                refine tt_ishl X dX10_order_107 ?_
                refine tt_top (nt_shl hl31) ?_
                refine tt_iconst X dX10_order_108 ?_
                refine tt_ixor X dX10_order_109 ?_
                refine tt_iand X dX10_order_110 ?_
                refine tt_top (y := ((S ^^^ 2 ^ lbN (nA (μ 69)) (nA (μ 70)) S (μ 60 11).toNat (wyN J (stA J od) k).1 t : Nat) : Int)) (by rw [bo_an (by omega) (by omega), hdel]) ?_
                refine tt_vi X rfl mX10_305 (q_canGoAll l g ln ext _ t (by omega) (S ^^^ 2 ^ lbN (nA (μ 69)) (nA (μ 70)) S (μ 60 11).toNat (wyN J (stA J od) k).1 t) (by omega) hN) (k_60 _ _) ⟨_, rfl, rfl⟩ rfl rfl (Nat.le_of_ble_eq_true rfl) (by decide) (by decide) (by decide) dX10_order_111 (fun z111 L111 μ111 hp => ?_)
                obtain ⟨rfl, e111, hz111⟩ := hp
                replace e111 := e111.symm
                subst e111
                try simp (disch := decide) only [ot_rd, ot_rs, ot_rf, ot_ucd, ot_ucs] at hz111
                refine tt_if_ne X 126 (by rw [hz111]; split <;> omega) dX10_order_114 (by decide) (fun b114 => ?_) (fun b114 => ?_)
                · refine tt_iload_n X rfl dX10_order_126 ?_
                  refine tt_iconst X dX10_order_127 ?_
                  refine tt_aload_n X rfl dX10_order_128 ?_
                  refine tt_iload_n X rfl dX10_order_129 ?_
                  refine tt_iload X rfl dX10_order_130 ?_
                  refine tt_iload_n X rfl dX10_order_132 ?_
                  refine tt_vi X rfl mX10_308 (q_lineBetween l g ln ext _ (wyN J (stA J od) k).1 t (by omega) (by omega) S hSl hN) (k_60 _ _) ⟨_, rfl, rfl⟩ rfl rfl (Nat.le_of_ble_eq_true rfl) (by decide) (by decide) (by decide) dX10_order_133 (fun z133 L133 μ133 hp => ?_)
                  obtain ⟨rfl, e133, hz133⟩ := hp
                  replace e133 := e133.symm
                  subst e133
                  try simp (disch := decide) only [ot_rd, ot_rs, ot_rf, ot_ucd, ot_ucs] at hz133
                  rw [if_pos hlM] at hz133
                  refine tt_top hz133 ?_
                  refine tt_ishl X dX10_order_136 ?_
                  refine tt_top (nt_shl hl31) ?_
                  refine tt_iconst X dX10_order_137 ?_
                  refine tt_ixor X dX10_order_138 ?_
                  refine tt_iand X dX10_order_139 ?_
                  refine tt_top (y := ((S ^^^ 2 ^ lbN (nA (μ 69)) (nA (μ 70)) S (μ 60 11).toNat (wyN J (stA J od) k).1 t : Nat) : Int)) (by rw [bo_an (by omega) (by omega), hdel]) ?_
                  refine tt_istore_n X dX10_order_140 (by decide) ?_
                  refine tt_iload X rfl dX10_order_141 ?_
                  refine tt_istore_n X dX10_order_143 (by decide) ?_
                  refine tt_iinc X dX10_order_144 rfl (by decide) ?_
                  refine tt_goto X 73 dX10_order_147 (by decide) ?_
                  refine tt_loc [(0, _), (1, _), (2, _), (3, _), (4, _)] ⟨rfl, rfl, rfl, rfl, rfl, trivial⟩ ?_
                  have hst2 : stB (wyN J (stA J od) k).2 (wyN J (stA J od) k).1 t = true := by
                    rw [hsq1.2]
                    cases w : cgB (nA (μ 69)) (nA (μ 70)) (μ 60 11).toNat (S ^^^ 2 ^ lbN (nA (μ 69)) (nA (μ 70)) S (μ 60 11).toNat (wyN J (stA J od) k).1 t) t
                    · rw [w] at hz111; simp at hz111; omega
                    · rfl
                  have htS : t = stp (wyN J (stA J od) k).2 (wyN J (stA J od) k).1 := by
                    apply Classical.byContradiction
                    intro w
                    have := hst.2.2.1 t (by omega)
                    rw [hst2] at this
                    cases this
                  have hcd := cnt_del hlM hsq1.1
                  have hg3 : goF (nA (μ 69)) (nA (μ 70)) (μ 60 11).toNat (S ^^^ 2 ^ lbN (nA (μ 69)) (nA (μ 70)) S (μ 60 11).toNat (wyN J (stA J od) k).1 t) (wyN J (stA J od) (k + 1)).1 (wyN J (stA J od) (k + 1)).2 := by
                    rw [wyN_s]
                    dsimp only
                    rw [← htS]
                    have hp2 := lbP_iff.mp (lsN_lt (μ 60 11).toNat hlM)
                    have hJ2 := isJ_del hw hg2.1 hlM hp2.1 hp2.2
                    have q5 := hst2
                    unfold stB at q5
                    rw [Bool.and_eq_true] at q5
                    refine ⟨hJ2, by omega, ?_, odd_step hw hlM hp2.1 hp2.2 hg2.2.2.2⟩
                    intro u hu
                    refine hgB_iff.mp q5.2 u ?_ hu
                    rcases Nat.lt_or_ge u 24 with w | w
                    · exact w
                    · exact absurd (isJ_hi hw hJ2 w) hu
                  have h3 := ih2 (k + 1, S ^^^ 2 ^ lbN (nA (μ 69)) (nA (μ 70)) S (μ 60 11).toNat (wyN J (stA J od) k).1 t) ⟨by show ((k + 1 : Nat) : Int) ≤ i; omega, hg3, by show cnt (S ^^^ 2 ^ lbN (nA (μ 69)) (nA (μ 70)) S (μ 60 11).toNat (wyN J (stA J od) k).1 t) (μ 60 11).toNat + (k + 1) = (μ 60 11).toNat; omega, hdl⟩ (by show i.toNat - (k + 1) < i.toNat - k; omega)
                  dsimp only at h3
                  rw [wyN_s] at h3
                  dsimp only at h3
                  rw [← htS] at h3
                  exact h3
                · refine tt_iload X rfl dX10_order_117 ?_
                  refine tt_iconst X dX10_order_119 ?_
                  refine tt_iadd X dX10_order_120 ?_
                  refine tt_istore X dX10_order_121 (by decide) ?_
                  refine tt_goto X 82 dX10_order_123 (by decide) ?_
                  refine tt_loc [(0, _), (1, _), (2, _), (3, _), (4, _), (5, _)] ⟨rfl, rfl, rfl, rfl, rfl, rfl, trivial⟩ ?_
                  have hne : t ≠ stp (wyN J (stA J od) k).2 (wyN J (stA J od) k).1 := by
                    intro w
                    have q := hst.2.1
                    rw [← w] at q
                    first
                      | (rw [hsq1.2] at q
                         rw [q] at hz111; simp at hz111; omega)
                      | (have q2 : ¬ lbN (nA (μ 69)) (nA (μ 70)) S (μ 60 11).toNat (wyN J (stA J od) k).1 t < (μ 60 11).toNat := by
                           intro w2
                           rw [if_pos w2] at hz87
                           omega
                         rw [(stq hw hg2 (show t < 24 by omega)).2 q2] at q
                         cases q)
                  exact ih3 (t + 1) (by omega) (by omega)
          · refine tt_iload_n X rfl dX10_order_63 ?_
            refine tt_iconst X dX10_order_64 ?_
            refine tt_iadd X dX10_order_65 ?_
            refine tt_istore_n X dX10_order_66 (by decide) ?_
            refine tt_goto X 42 dX10_order_67 (by decide) ?_
            refine tt_loc [(0, _), (1, _), (2, _), (3, _)] ⟨rfl, rfl, rfl, rfl, trivial⟩ ?_
            have hne : a ≠ stA J od := by
              intro w
              subst w
              have q := hsq.1
              rw [Bool.and_eq_true] at q
              first
                | (rw [q.1] at b51; simp at b51; done)
                | (rw [q.2] at hz57; simp at hz57; omega)
            exact ih (a + 1) (by omega) (by omega)
      · refine tt_iconst X dX10_order_33 ?_
        refine tt_iret X ⟨hr.1, hr.2.1⟩ (by decide) (by decide) dX10_order_34 ?_
        exact ⟨rfl, rfl, by rw [if_neg]; intro w; first | omega | (have := hk0 (by omega); omega)⟩

set_option maxRecDepth 100000 in
set_option maxHeartbeats 1000000 in
theorem q_thread (l : Launch) (g : ot_G) (ln : Nat) (ext : ot_L) (μ : ot_M) (h0 : μ 60 0 = 0) (w : Int) (hw : -2147483648 ≤ w ∧ w ≤ 2147483647)(hN : gNet (μ 60 11) (μ 69) (μ 70)) (J : Nat → Nat) (hJe : J = joN (nA (μ 69)) (nA (μ 70)) (μ 60 11).toNat) (od : Nat) (hode : od = oddN (nA (μ 69)) (nA (μ 70)) (2 ^ (μ 60 11).toNat - 1) (μ 60 11).toNat) (hG : gPin (μ 60 1) (μ 60 2) (μ 61) (μ 62)) (hset : ∀ l : Nat, (l : Int) < μ 60 11 → μ 69 (l : Int) < μ 60 2 ∧ μ 70 (l : Int) < μ 60 2)  : ot_C l g yX10_thread cX10_thread 2 (some .int) 3 0 0 [.inr 60, .inl w] (LL ln ext) μ (ot_pi (fun r L2 μ2 => L2 = LL ln ext ∧ (∃ F G, μ2 = ot_uc (ot_uc μ 85 G) 84 F) ∧ thS J od (μ 61) (μ 62) w r)) := by
  refine ot_enter (by decide) (Nat.le_of_ble_eq_true rfl) ?_
  intro p e s m args below meth c X hr
  have hM := hN.1
  have hw := hN.2.2
  have hal := all_q hM
  have hJ0 := joN_is hw
  rw [← hJe] at hJ0
  have hlt : ∀ u, J u < 16777216 := fun u => by rw [hJe]; exact joN_lt hw (Nat.le_refl _) u
  have hodl : od < 16777216 := by rw [hode]; exact oddN_lt hw _ (Nat.le_refl _)
  have hkb := knF_bound (od := od) hw hJ0
  have hko := knF_od hw hJ0 hode
  have hk0 : μ 60 11 = 0 → (knF J od 24).2.1 = 0 := fun h => knF_nil (by rw [hJe, h]; rfl)
  have hk1 : μ 60 11 ≠ 0 → 1 ≤ (knF J od 24).2.1 := fun h => by
    obtain ⟨c1, c2, c3, c4, c5, c6⟩ := knF_clo (od := od) hw hJ0 24 (Nat.le_refl _)
    have hA := nA_eq hN (l := 0) (by omega)
    have hne : J (nA (μ 69) 0) ≠ 0 := tb_ne.mpr ⟨nA (μ 70) 0, (hJ0 _ _).mpr ⟨0, by omega, by rw [Nat.testBit_two_pow_sub_one]; exact decide_eq_true (by omega), .inl ⟨rfl, rfl⟩⟩⟩
    have := c6 _ (c3 _ hA.2.2.1 hne)
    omega
  refine tt_aload_n X rfl dX10_thread_0 ?_
  refine tt_iconst X dX10_thread_1 ?_
  refine tt_puti X fX10_98 kc_10 (k_60 _ _) (by decide) (fun q hq => by cases hq; rfl) rfl dX10_thread_2 ?_
  refine tt_mem (ot_nop h0) ?_
  refine tt_iload_n X rfl dX10_thread_5 ?_
  refine tt_if_ne X 14 (by omega) dX10_thread_6 (by decide) (fun b6 => ?_) (fun b6 => ?_)
  · refine tt_iload_n X rfl dX10_thread_14 ?_
    refine tt_iconst X dX10_thread_15 ?_
    refine tt_icmp_ne X 37 (by omega) dX10_thread_16 (by decide) (fun b16 => ?_) (fun b16 => ?_)
    · refine tt_iload_n X rfl dX10_thread_37 ?_
      refine tt_iconst X dX10_thread_38 ?_
      refine tt_icmp_ne X 47 (by omega) dX10_thread_39 (by decide) (fun b39 => ?_) (fun b39 => ?_)
      · refine tt_iload_n X rfl dX10_thread_47 ?_
        refine tt_iconst X dX10_thread_48 ?_
        refine tt_icmp_ne X 67 (by omega) dX10_thread_49 (by decide) (fun b49 => ?_) (fun b49 => ?_)
        · refine tt_iload_n X rfl dX10_thread_67 ?_
          refine tt_iconst X dX10_thread_68 ?_
          refine tt_icmp_ne X 79 (by omega) dX10_thread_69 (by decide) (fun b69 => ?_) (fun b69 => ?_)
          · refine tt_iconst X dX10_thread_79 ?_
            refine tt_iret X ⟨hr.1, hr.2.1⟩ (by decide) (by decide) dX10_thread_80 ?_
            refine ⟨rfl, ⟨μ 84, μ 85, by rw [ot_uc_self, ot_uc_self]⟩, ?_⟩
            unfold thS
            first
              | (rw [if_neg (by omega), if_neg (by omega), if_neg (by omega), if_pos (by omega), hko.2]; exact hz61)
              | (rw [if_neg (by omega), if_neg (by omega), if_neg (by omega), if_neg (by omega), if_pos (by omega)]; exact hz73)
              | rw [if_neg (by omega), if_neg (by omega), if_neg (by omega), if_neg (by omega), if_neg (by omega)]
          · refine tt_aload_n X rfl dX10_thread_72 ?_
            refine tt_vi X rfl mX10_296 (q_parts l g ln ext _ hN J hJe od hode) (k_60 _ _) ⟨_, rfl, rfl⟩ rfl rfl (Nat.le_of_ble_eq_true rfl) (by decide) (by decide) (by decide) dX10_thread_73 (fun z73 L73 μ73 hp => ?_)
            obtain ⟨rfl, e73, hz73⟩ := hp
            replace e73 := e73.symm
            subst e73
            try simp (disch := decide) only [ot_rd, ot_rs, ot_rf, ot_ucd, ot_ucs] at hz73
            refine tt_goto X 80 dX10_thread_76 (by decide) ?_
            refine tt_iret X ⟨hr.1, hr.2.1⟩ (by decide) (by decide) dX10_thread_80 ?_
            refine ⟨rfl, ⟨μ 84, μ 85, by rw [ot_uc_self, ot_uc_self]⟩, ?_⟩
            unfold thS
            first
              | (rw [if_neg (by omega), if_neg (by omega), if_neg (by omega), if_pos (by omega), hko.2]; exact hz61)
              | (rw [if_neg (by omega), if_neg (by omega), if_neg (by omega), if_neg (by omega), if_pos (by omega)]; exact hz73)
              | rw [if_neg (by omega), if_neg (by omega), if_neg (by omega), if_neg (by omega), if_neg (by omega)]
        · refine tt_aload_n X rfl dX10_thread_52 ?_
          refine tt_aload_n X rfl dX10_thread_53 ?_
          refine tt_aload_n X rfl dX10_thread_54 ?_
          refine tt_vi X rfl mX10_278 (q_allLines l g ln ext _) (k_60 _ _) ⟨_, rfl, rfl⟩ rfl rfl (Nat.le_of_ble_eq_true rfl) (by decide) (by decide) (by decide) dX10_thread_55 (fun z55 L55 μ55 hp => ?_)
          obtain ⟨rfl, e55, hz55⟩ := hp
          replace e55 := e55.symm
          subst e55
          rw [hal.1] at hz55
          refine tt_top hz55 ?_
          try simp (disch := decide) only [ot_rd, ot_rs, ot_rf, ot_ucd, ot_ucs] at hz55
          refine tt_vi X rfl mX10_290 (q_oddOf l g ln ext _ (2 ^ (μ 60 11).toNat - 1) hal.2 hN) (k_60 _ _) ⟨_, rfl, rfl⟩ rfl rfl (Nat.le_of_ble_eq_true rfl) (by decide) (by decide) (by decide) dX10_thread_58 (fun z58 L58 μ58 hp => ?_)
          obtain ⟨rfl, e58, hz58⟩ := hp
          replace e58 := e58.symm
          subst e58
          rw [← hode] at hz58
          refine tt_top hz58 ?_
          try simp (disch := decide) only [ot_rd, ot_rs, ot_rf, ot_ucd, ot_ucs] at hz58
          refine tt_vi X rfl mX10_293 (q_ones l g ln ext _ ((od : Nat) : Int) (by omega)) (k_60 _ _) ⟨_, rfl, rfl⟩ rfl rfl (Nat.le_of_ble_eq_true rfl) (by decide) (by decide) (by decide) dX10_thread_61 (fun z61 L61 μ61 hp => ?_)
          obtain ⟨rfl, e61, hz61⟩ := hp
          replace e61 := e61.symm
          subst e61
          rw [pop_cnt hodl] at hz61
          try simp (disch := decide) only [ot_rd, ot_rs, ot_rf, ot_ucd, ot_ucs] at hz61
          refine tt_goto X 80 dX10_thread_64 (by decide) ?_
          refine tt_iret X ⟨hr.1, hr.2.1⟩ (by decide) (by decide) dX10_thread_80 ?_
          refine ⟨rfl, ⟨μ 84, μ 85, by rw [ot_uc_self, ot_uc_self]⟩, ?_⟩
          unfold thS
          first
            | (rw [if_neg (by omega), if_neg (by omega), if_neg (by omega), if_pos (by omega), hko.2]; exact hz61)
            | (rw [if_neg (by omega), if_neg (by omega), if_neg (by omega), if_neg (by omega), if_pos (by omega)]; exact hz73)
            | rw [if_neg (by omega), if_neg (by omega), if_neg (by omega), if_neg (by omega), if_neg (by omega)]
      · refine tt_aload_n X rfl dX10_thread_42 ?_
        refine tt_vi X rfl mX10_302 (q_shortest l g ln ext _ hN J hJe od hode hG hset) (k_60 _ _) ⟨_, rfl, rfl⟩ rfl rfl (Nat.le_of_ble_eq_true rfl) (by decide) (by decide) (by decide) dX10_thread_43 (fun z43 L43 μ43 hp => ?_)
        obtain ⟨rfl, ⟨F, G, e43⟩, hsh⟩ := hp
        subst e43
        refine tt_iret X ⟨hr.1, hr.2.1⟩ (by decide) (by decide) dX10_thread_46 ?_
        refine ⟨rfl, ⟨F, G, rfl⟩, ?_⟩
        unfold thS
        rw [if_neg (by omega), if_neg (by omega), if_pos (by omega)]
        exact hsh
    · refine tt_aload_n X rfl dX10_thread_19 ?_
      refine tt_geti X fX10_108 (k_60 _ _) (by decide) (Or.inl rfl) dX10_thread_20 ?_
      refine tt_if_ne X 30 (by omega) dX10_thread_23 (by decide) (fun b23 => ?_) (fun b23 => ?_)
      · refine tt_aload_n X rfl dX10_thread_30 ?_
        refine tt_vi X rfl mX10_299 (q_threadsNeeded l g ln ext _ hN J hJe od hode) (k_60 _ _) ⟨_, rfl, rfl⟩ rfl rfl (Nat.le_of_ble_eq_true rfl) (by decide) (by decide) (by decide) dX10_thread_31 (fun z31 L31 μ31 hp => ?_)
        obtain ⟨rfl, e31, hz31⟩ := hp
        replace e31 := e31.symm
        subst e31
        try simp (disch := decide) only [ot_rd, ot_rs, ot_rf, ot_ucd, ot_ucs] at hz31
        refine tt_iconst X dX10_thread_34 ?_
        refine tt_isub X dX10_thread_35 ?_
        refine tt_iret X ⟨hr.1, hr.2.1⟩ (by decide) (by decide) dX10_thread_36 ?_
        refine ⟨rfl, ⟨μ 84, μ 85, by rw [ot_uc_self, ot_uc_self]⟩, ?_⟩
        unfold thS
        rw [if_neg (by omega), if_pos (by omega)]
        first | (have := hk0 (by omega); omega) | (have := hk1 (by omega); omega)
      · refine tt_iconst X dX10_thread_26 ?_
        refine tt_goto X 36 dX10_thread_27 (by decide) ?_
        refine tt_iret X ⟨hr.1, hr.2.1⟩ (by decide) (by decide) dX10_thread_36 ?_
        refine ⟨rfl, ⟨μ 84, μ 85, by rw [ot_uc_self, ot_uc_self]⟩, ?_⟩
        unfold thS
        rw [if_neg (by omega), if_pos (by omega)]
        first | (have := hk0 (by omega); omega) | (have := hk1 (by omega); omega)
  · refine tt_aload_n X rfl dX10_thread_9 ?_
    refine tt_vi X rfl mX10_299 (q_threadsNeeded l g ln ext _ hN J hJe od hode) (k_60 _ _) ⟨_, rfl, rfl⟩ rfl rfl (Nat.le_of_ble_eq_true rfl) (by decide) (by decide) (by decide) dX10_thread_10 (fun z10 L10 μ10 hp => ?_)
    obtain ⟨rfl, e10, hz10⟩ := hp
    replace e10 := e10.symm
    subst e10
    try simp (disch := decide) only [ot_rd, ot_rs, ot_rf, ot_ucd, ot_ucs] at hz10
    refine tt_iret X ⟨hr.1, hr.2.1⟩ (by decide) (by decide) dX10_thread_13 ?_
    refine ⟨rfl, ⟨μ 84, μ 85, by rw [ot_uc_self, ot_uc_self]⟩, ?_⟩
    unfold thS
    rw [if_pos (by omega)]; exact hz10

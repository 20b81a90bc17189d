def nA (F : Int → Int) : Nat → Nat := fun l => (F (l : Int)).toNat
/-- the set of lines is good -/
def gNet (M : Int) (F G : Int → Int) : Prop := (0 ≤ M ∧ M ≤ 20) ∧ (∀ l : Nat, (l : Int) < M → 0 ≤ F (l : Int) ∧ 0 ≤ G (l : Int)) ∧ wfL (nA F) (nA G) M.toNat
theorem nA_eq {M : Int} {F G : Int → Int} (h : gNet M F G) {l : Nat} (hl : (l : Int) < M) : F (l : Int) = (nA F l : Int) ∧ G (l : Int) = (nA G l : Int) ∧ nA F l < 24 ∧ nA G l < 24 ∧ nA F l ≠ nA G l := by
  have h1 := h.2.1 l hl
  have h2 := h.2.2.1 l (by omega)
  refine ⟨?_, ?_, h2⟩
  · show _ = (((F (l : Int)).toNat : Nat) : Int)
    omega
  · show _ = (((G (l : Int)).toNat : Nat) : Int)
    omega
theorem joN_lt {A B : Nat → Nat} {M : Nat} (h : wfL A B M) {n : Nat} (hn : n ≤ M) (p : Nat) : joN A B n p < 16777216 := by
  refine Nat.lt_pow_two_of_testBit (n := 24) _ (fun i hi => ?_)
  rw [Bool.eq_false_iff]
  intro w
  obtain ⟨l, h1, h2⟩ := (joN_bit h p i n hn).mp w
  have := h.1 l (by omega)
  unfold bet at h2
  omega
set_option maxRecDepth 100000 in
set_option maxHeartbeats 1000000 in
theorem c_knot (l : Launch) (g : ot_G) (ln : Nat) (ext : ot_L) (μ : ot_M) (hN : gNet (μ 1 13) (μ 9) (μ 10)) (J : Nat → Nat) (hJe : J = joN (nA (μ 9)) (nA (μ 10)) (μ 1 13).toNat) (od : Nat) (hode : od = oddN (nA (μ 9)) (nA (μ 10)) (2 ^ (μ 1 13).toNat - 1) (μ 1 13).toNat)  : ot_C l g yX5_knot cX5_knot 4 none 3 0 0 [.inr 41] (LL ln ext) μ (ot_pv (fun L2 μ2 => L2 = LL ln ext ∧ ∃ F G, gJ F J ∧ ((knF J od 24).2.2.1 = 1 → ∀ u, u < 24 → ((knF J od 24).1 &&& od).testBit u = true → G (cnt ((knF J od 24).1 &&& od) u : Int) = (u : Int)) ∧ μ2 = ot_up (ot_up (ot_up (ot_uc (ot_uc μ 42 F) 43 G) 41 4 ((knF J od 24).2.1 : Int)) 41 5 ((knF J od 24).2.2.2 : Int)) 41 6 ((knF J od 24).2.2.1 : Int))) := by
  refine ot_enter (by decide) (Nat.le_of_ble_eq_true rfl) ?_
  intro p e s m args below meth c X hr
  have hM := hN.1
  have hw := hN.2.2
  have hJ0 := joN_is hw
  rw [← hJe] at hJ0
  have hlt : ∀ u, J u < 16777216 := fun u => by rw [hJe]; exact joN_lt hw (Nat.le_refl _) u
  have hod : ∀ u, u < 24 → (od.testBit u = true ↔ cnt (J u) 24 % 2 = 1) := fun u _ => by rw [hode, hJe]; exact oddN_par hw u _ (Nat.le_refl _)
  refine tt_aload_n X rfl dX5_knot_0 ?_
  refine tt_getr X fX5_9 (k_41 _ _) (by decide) ⟨nofun, nofun⟩ rfl dX5_knot_1 ?_
  refine tt_iconst X dX5_knot_4 ?_
  refine tt_sv X rfl mX5_25 (c_fill l g ln ext _ (rs := []) 42 24 _ (k_42 _ _) (by decide)) rfl rfl (Nat.le_of_ble_eq_true rfl) (by decide) (by decide) (by decide) dX5_knot_5 (fun L5 μ5 hp => ?_)
  obtain ⟨rfl, rfl⟩ := hp
  refine tt_iconst X dX5_knot_8 ?_
  refine tt_istore_n X dX5_knot_9 (by decide) ?_
  refine tt_loc [(0, _), (1, _)] ⟨rfl, rfl, trivial⟩ ?_
  refine tt_loop (α := Nat × (Int → Int)) (fun ((i, F)) => (μ 1 13).toNat - i) (fun ((i, F)) => (i : Int) ≤ μ 1 13 ∧ gJ F (joN (nA (μ 9)) (nA (μ 10)) i)) (fun ((i, F)) => ot_uc μ 42 F) (fun ((i, F)) => [(0, .inr 41), (1, .inl (i : Int))]) (0, ot_fl (μ 42) 24 0) ⟨by show ((0 : Nat) : Int) ≤ _; omega, fun u hu => wr_in (old := μ 42) (new := fun _ => 0) (n := 24) ⟨by omega, by omega⟩⟩ ?_
  intro a hI ih
  obtain ⟨i, F⟩ := a
  try dsimp only at hI ih ⊢
  replace hI : (i : Int) ≤ μ 1 13 ∧ gJ F (joN (nA (μ 9)) (nA (μ 10)) i) := hI
  have hiM := hI.1
  refine tt_iload_n X rfl dX5_knot_10 ?_
  refine tt_aload_n X rfl dX5_knot_11 ?_
  refine tt_getr X fX5_21 (k_41 _ _) (by decide) ⟨nofun, nofun⟩ rfl dX5_knot_12 ?_
  refine tt_geti X fX5_31 (k_1 _ _) (by decide) (Or.inl rfl) dX5_knot_15 ?_
  try simp (disch := decide) only [ot_rd, ot_rs, ot_rf, ot_ucd, ot_ucs]
  refine tt_icmp_ge X 49 (by first | omega | (simp (disch := decide) only [ot_rd, ot_rs, ot_rf, ot_ucd, ot_ucs]; omega)) dX5_knot_18 (by decide) (fun b18 => ?_) (fun b18 => ?_)
  · refine tt_aload_n X rfl dX5_knot_49 ?_
    refine tt_iconst X dX5_knot_50 ?_
    refine tt_puti X fX5_47 kc_5 (k_41 _ _) (by decide) (fun q hq => by cases hq; rfl) rfl dX5_knot_51 ?_
    refine tt_aload_n X rfl dX5_knot_54 ?_
    refine tt_iconst X dX5_knot_55 ?_
    refine tt_puti X fX5_50 kc_5 (k_41 _ _) (by decide) (fun q hq => by cases hq; rfl) rfl dX5_knot_56 ?_
    refine tt_aload_n X rfl dX5_knot_59 ?_
    refine tt_iconst X dX5_knot_60 ?_
    refine tt_puti X fX5_53 kc_5 (k_41 _ _) (by decide) (fun q hq => by cases hq; rfl) rfl dX5_knot_61 ?_
    refine tt_iconst X dX5_knot_64 ?_
    refine tt_istore_n X dX5_knot_65 (by decide) ?_
    refine tt_iconst X dX5_knot_66 ?_
    refine tt_istore_n X dX5_knot_67 (by decide) ?_
    have hFJ : gJ F J := by
      have := hI.2
      rw [show i = (μ 1 13).toNat by omega, ← hJe] at this
      exact this
    refine tt_mem (μ' := ot_up (ot_up (ot_up (ot_uc (ot_uc μ 42 F) 43 (μ 43)) 41 4 0) 41 5 0) 41 6 0) (by funext q1 c1; by_cases w1 : q1 = 43 <;> by_cases w2 : q1 = 41 <;> simp [ot_up, ot_uc, w1, w2]) ?_
    refine tt_loc [(0, _), (1, _), (2, _)] ⟨rfl, rfl, rfl, trivial⟩ ?_
    refine tt_loop (α := Nat × (Int → Int)) (fun ((q, G)) => 24 - q) (fun ((q, G)) => q ≤ 24 ∧ ((knF J od q).2.2.1 = 1 → ∀ u, u < 24 → ((knF J od q).1 &&& od).testBit u = true → G (cnt ((knF J od q).1 &&& od) u : Int) = (u : Int))) (fun ((q, G)) => ot_up (ot_up (ot_up (ot_uc (ot_uc μ 42 F) 43 G) 41 4 ((knF J od q).2.1 : Int)) 41 5 ((knF J od q).2.2.2 : Int)) 41 6 ((knF J od q).2.2.1 : Int)) (fun ((q, G)) => [(0, .inr 41), (1, .inl ((knF J od q).1 : Int)), (2, .inl (q : Int))]) (0, μ 43) ⟨Nat.zero_le _, fun h => by cases h⟩ ?_
    intro a hI2 ih2
    obtain ⟨q, G⟩ := a
    try dsimp only at hI2 ih2 ⊢
    replace hI2 : q ≤ 24 ∧ ((knF J od q).2.2.1 = 1 → ∀ u, u < 24 → ((knF J od q).1 &&& od).testBit u = true → G (cnt ((knF J od q).1 &&& od) u : Int) = (u : Int)) := hI2
    have hq24 := hI2.1
    have hc := knF_clo (od := od) hw hJ0 q hq24
    have hkl : (knF J od q).1 < 16777216 := hc.1
    refine tt_iload_n X rfl dX5_knot_68 ?_
    refine tt_bipush X (by decide) dX5_knot_69 ?_
    refine tt_icmp_ge X 137 (by first | omega | (simp (disch := decide) only [ot_rd, ot_rs, ot_rf, ot_ucd, ot_ucs]; omega)) dX5_knot_71 (by decide) (fun b71 => ?_) (fun b71 => ?_)
    · refine tt_vret X ⟨hr.1, hr.2.1⟩ (by decide) (by decide) dX5_knot_137 ?_
      have hq : q = 24 := by omega
      subst hq
      exact ⟨rfl, F, G, hFJ, hI2.2, rfl⟩
    · refine tt_aload_n X rfl dX5_knot_74 ?_
      refine tt_getr X fX5_9 (k_41 _ _) (by decide) ⟨nofun, nofun⟩ rfl dX5_knot_75 ?_
      refine tt_iload_n X rfl dX5_knot_78 ?_
      refine tt_iaload X (k_42 _ _) (by first | omega | (simp (disch := decide) only [ot_rd, ot_rs, ot_rf, ot_ucd, ot_ucs]; omega)) dX5_knot_79 ?_
      try simp (disch := decide) only [ot_rd, ot_rs, ot_rf, ot_ucd, ot_ucs]
      refine tt_top (hFJ q (by omega)) ?_
      refine tt_if_eq X 131 (by have := hlt q; omega) dX5_knot_80 (by decide) (fun b80 => ?_) (fun b80 => ?_)
      · refine tt_iinc X dX5_knot_131 rfl (by decide) ?_
        refine tt_goto X 68 dX5_knot_134 (by decide) ?_
        refine tt_loc [(0, _), (1, _), (2, _)] ⟨rfl, rfl, rfl, trivial⟩ ?_
        first
          | (have hno : ¬ (J q ≠ 0 ∧ (knF J od q).1.testBit q = false) := by
               first
                 | exact fun w => w.1 (by omega)
                 | (intro w
                    rw [w.2] at b88
                    simp at b88)
             have h2 := ih2 (q + 1, G) ⟨by show q + 1 ≤ 24; omega, by rw [knF_no hno]; exact hI2.2⟩ (by show 24 - (q + 1) < 24 - q; omega)
             dsimp only at h2
             rw [knF_no hno] at h2
             exact h2)
          | (have hk := knF_yes (J := J) (od := od) (p := q) ⟨by omega, hse⟩
             have h2 := ih2 (q + 1, G2) ⟨by show q + 1 ≤ 24; omega, by
               rw [hk]
               dsimp only
               intro h1 u hu hub
               have h0 : (knF J od q).2.2.1 = 0 := by omega
               have hs0 : (knF J od q).1 = 0 := by
                 refine Nat.eq_of_testBit_eq (fun i => ?_)
                 rw [Nat.zero_testBit, Bool.eq_false_iff]
                 intro w
                 have := hc.2.2.2.2.2 i w
                 omega
               have ho0 : (knF J od q).2.2.2 = 0 := by
                 rw [hc.2.2.2.1, hs0, Nat.zero_and, cnt_zero]
               rw [hs0, Nat.zero_or] at hub ⊢
               have := hG2 u hu hub
               rw [ho0] at this
               rw [← this]
               congr 1
               omega⟩ (by show 24 - (q + 1) < 24 - q; omega)
             dsimp only at h2
             rw [hk] at h2
             dsimp only at h2
             refine tt_mem ?_ h2
             funext q1 c1
             by_cases w1 : q1 = 41
             · subst w1
               by_cases w4 : c1 = 4
               · subst w4; simp [ot_up, ot_uc]
               · by_cases w5 : c1 = 5
                 · subst w5; simp [ot_up, ot_uc]
                 · by_cases w6 : c1 = 6
                   · subst w6; simp [ot_up, ot_uc]
                   · simp [ot_up, ot_uc, w4, w5, w6]
             · by_cases w2 : q1 = 43
               · subst w2; simp [ot_up, ot_uc]
               · simp [ot_up, ot_uc, w1, w2])
      · refine tt_iload_n X rfl dX5_knot_83 ?_
        refine tt_iload_n X rfl dX5_knot_84 ?_
        refine tt_ishr X dX5_knot_85 ?_
        refine tt_iconst X dX5_knot_86 ?_
        refine tt_iand X dX5_knot_87 ?_
        refine tt_top (nt_test (m := (knF J od q).1) (i := q) (by omega) (by omega)) ?_
        refine tt_if_ne X 131 (by split <;> omega) dX5_knot_88 (by decide) (fun b88 => ?_) (fun b88 => ?_)
        · refine tt_iinc X dX5_knot_131 rfl (by decide) ?_
          refine tt_goto X 68 dX5_knot_134 (by decide) ?_
          refine tt_loc [(0, _), (1, _), (2, _)] ⟨rfl, rfl, rfl, trivial⟩ ?_
          first
            | (have hno : ¬ (J q ≠ 0 ∧ (knF J od q).1.testBit q = false) := by
                 first
                   | exact fun w => w.1 (by omega)
                   | (intro w
                      rw [w.2] at b88
                      simp at b88)
               have h2 := ih2 (q + 1, G) ⟨by show q + 1 ≤ 24; omega, by rw [knF_no hno]; exact hI2.2⟩ (by show 24 - (q + 1) < 24 - q; omega)
               dsimp only at h2
               rw [knF_no hno] at h2
               exact h2)
            | (have hk := knF_yes (J := J) (od := od) (p := q) ⟨by omega, hse⟩
               have h2 := ih2 (q + 1, G2) ⟨by show q + 1 ≤ 24; omega, by
                 rw [hk]
                 dsimp only
                 intro h1 u hu hub
                 have h0 : (knF J od q).2.2.1 = 0 := by omega
                 have hs0 : (knF J od q).1 = 0 := by
                   refine Nat.eq_of_testBit_eq (fun i => ?_)
                   rw [Nat.zero_testBit, Bool.eq_false_iff]
                   intro w
                   have := hc.2.2.2.2.2 i w
                   omega
                 have ho0 : (knF J od q).2.2.2 = 0 := by
                   rw [hc.2.2.2.1, hs0, Nat.zero_and, cnt_zero]
                 rw [hs0, Nat.zero_or] at hub ⊢
                 have := hG2 u hu hub
                 rw [ho0] at this
                 rw [← this]
                 congr 1
                 omega⟩ (by show 24 - (q + 1) < 24 - q; omega)
               dsimp only at h2
               rw [hk] at h2
               dsimp only at h2
               refine tt_mem ?_ h2
               funext q1 c1
               by_cases w1 : q1 = 41
               · subst w1
                 by_cases w4 : c1 = 4
                 · subst w4; simp [ot_up, ot_uc]
                 · by_cases w5 : c1 = 5
                   · subst w5; simp [ot_up, ot_uc]
                   · by_cases w6 : c1 = 6
                     · subst w6; simp [ot_up, ot_uc]
                     · simp [ot_up, ot_uc, w4, w5, w6]
               · by_cases w2 : q1 = 43
                 · subst w2; simp [ot_up, ot_uc]
                 · simp [ot_up, ot_uc, w1, w2])
        · refine tt_aload_n X rfl dX5_knot_91 ?_
          refine tt_iload_n X rfl dX5_knot_92 ?_
          refine tt_vi X rfl mX5_56 (c_partOf l g ln ext _ q (by omega) J (by simp (disch := decide) only [ot_rd, ot_rs, ot_rf, ot_ucd, ot_ucs, ot_rdf]; exact hFJ) hlt) (k_41 _ _) ⟨_, rfl, rfl⟩ rfl rfl (Nat.le_of_ble_eq_true rfl) (by decide) (by decide) (by decide) dX5_knot_93 (fun z93 L93 μ93 hp => ?_)
          obtain ⟨rfl, e93, hz93⟩ := hp
          replace e93 := e93.symm
          subst e93
          try simp (disch := decide) only [ot_rd, ot_rs, ot_rf, ot_ucd, ot_ucs] at hz93
          have hq2 : q < 24 := by omega
          have hse : (knF J od q).1.testBit q = false := by
            cases w : (knF J od q).1.testBit q
            · rfl
            · rw [w] at b88; simp at b88
          have hpl : prt J q < 16777216 := prt_lt hlt hq2
          have hc2 := knF_clo (od := od) hw hJ0 (q + 1) (by omega)
          rw [knF_yes (J := J) (od := od) (p := q) ⟨by omega, hse⟩] at hc2
          have hc3 := hc2.2.2.2.1
          dsimp only at hc3
          have hc4 := cnt_le (((knF J od q).1 ||| prt J q) &&& od) 24
          have hc5 := cnt_le (prt J q &&& od) 24
          refine tt_top hz93 ?_
          refine tt_istore_n X dX5_knot_96 (by decide) ?_
          refine tt_iload_n X rfl dX5_knot_97 ?_
          refine tt_iload_n X rfl dX5_knot_98 ?_
          refine tt_ior X dX5_knot_99 ?_
          refine tt_top (nt_or hkl hpl) ?_
          refine tt_istore_n X dX5_knot_100 (by decide) ?_
          refine tt_aload_n X rfl dX5_knot_101 ?_
          refine tt_dup X dX5_knot_102 ?_
          refine tt_geti X fX5_53 (k_41 _ _) (by decide) (Or.inl rfl) dX5_knot_103 ?_
          try simp (disch := decide) only [ot_rd, ot_rs, ot_rf, ot_ucd, ot_ucs]
          refine tt_iconst X dX5_knot_106 ?_
          refine tt_iadd X dX5_knot_107 ?_
          refine tt_puti X fX5_53 kc_5 (k_41 _ _) (by decide) (fun q hq => by cases hq; rfl) rfl dX5_knot_108 ?_
          refine tt_aload_n X rfl dX5_knot_111 ?_
          refine tt_dup X dX5_knot_112 ?_
          refine tt_geti X fX5_47 (k_41 _ _) (by decide) (Or.inl rfl) dX5_knot_113 ?_
          try simp (disch := decide) only [ot_rd, ot_rs, ot_rf, ot_ucd, ot_ucs]
          refine tt_aload_n X rfl dX5_knot_116 ?_
          refine tt_iload_n X rfl dX5_knot_117 ?_
          refine tt_vi X rfl mX5_60 (c_noteOdds l g ln ext _ (prt J q) hpl J (by simp (disch := decide) only [ot_rd, ot_rs, ot_rf, ot_ucd, ot_ucs, ot_rdf]; exact hFJ) hlt od hod (by simp (disch := decide) only [ot_rd, ot_rs, ot_rf, ot_ucd, ot_ucs, ot_rdf]; omega)) (k_41 _ _) ⟨_, rfl, rfl⟩ rfl rfl (Nat.le_of_ble_eq_true rfl) (by decide) (by decide) (by decide) dX5_knot_118 (fun z118 L118 μ118 hp => ?_)
          obtain ⟨rfl, hz118, G2, e118, hG2⟩ := hp
          subst e118
          simp (disch := decide) only [ot_rd, ot_rs, ot_rf, ot_ucd, ot_ucs, ot_rdf] at hG2
          refine tt_top hz118 ?_
          refine tt_iconst X dX5_knot_121 ?_
          refine tt_idiv X (by omega) dX5_knot_122 ?_
          refine tt_top (y := ((cnt (prt J q &&& od) 24 / 2 : Nat) : Int)) (by rw [bo_div (by omega) (by omega)]; omega) ?_
          refine tt_iconst X dX5_knot_123 ?_
          refine tt_max X rfl mX5_63 (by omega) (Nat.le_of_ble_eq_true rfl) (by decide) (by decide) dX5_knot_124 ?_
          refine tt_top (y := ((max (cnt (prt J q &&& od) 24 / 2) 1 : Nat) : Int)) (by omega) ?_
          refine tt_iadd X dX5_knot_127 ?_
          refine tt_puti X fX5_47 kc_5 (k_41 _ _) (by decide) (fun q hq => by cases hq; rfl) rfl dX5_knot_128 ?_
          refine tt_iinc X dX5_knot_131 rfl (by decide) ?_
          refine tt_goto X 68 dX5_knot_134 (by decide) ?_
          refine tt_loc [(0, _), (1, _), (2, _)] ⟨rfl, rfl, rfl, trivial⟩ ?_
          first
            | (have hno : ¬ (J q ≠ 0 ∧ (knF J od q).1.testBit q = false) := by
                 first
                   | exact fun w => w.1 (by omega)
                   | (intro w
                      rw [w.2] at b88
                      simp at b88)
               have h2 := ih2 (q + 1, G) ⟨by show q + 1 ≤ 24; omega, by rw [knF_no hno]; exact hI2.2⟩ (by show 24 - (q + 1) < 24 - q; omega)
               dsimp only at h2
               rw [knF_no hno] at h2
               exact h2)
            | (have hk := knF_yes (J := J) (od := od) (p := q) ⟨by omega, hse⟩
               have h2 := ih2 (q + 1, G2) ⟨by show q + 1 ≤ 24; omega, by
                 rw [hk]
                 dsimp only
                 intro h1 u hu hub
                 have h0 : (knF J od q).2.2.1 = 0 := by omega
                 have hs0 : (knF J od q).1 = 0 := by
                   refine Nat.eq_of_testBit_eq (fun i => ?_)
                   rw [Nat.zero_testBit, Bool.eq_false_iff]
                   intro w
                   have := hc.2.2.2.2.2 i w
                   omega
                 have ho0 : (knF J od q).2.2.2 = 0 := by
                   rw [hc.2.2.2.1, hs0, Nat.zero_and, cnt_zero]
                 rw [hs0, Nat.zero_or] at hub ⊢
                 have := hG2 u hu hub
                 rw [ho0] at this
                 rw [← this]
                 congr 1
                 omega⟩ (by show 24 - (q + 1) < 24 - q; omega)
               dsimp only at h2
               rw [hk] at h2
               dsimp only at h2
               refine tt_mem ?_ h2
               funext q1 c1
               by_cases w1 : q1 = 41
               · subst w1
                 by_cases w4 : c1 = 4
                 · subst w4; simp [ot_up, ot_uc]
                 · by_cases w5 : c1 = 5
                   · subst w5; simp [ot_up, ot_uc]
                   · by_cases w6 : c1 = 6
                     · subst w6; simp [ot_up, ot_uc]
                     · simp [ot_up, ot_uc, w4, w5, w6]
               · by_cases w2 : q1 = 43
                 · subst w2; simp [ot_up, ot_uc]
                 · simp [ot_up, ot_uc, w1, w2])
  · refine tt_aload_n X rfl dX5_knot_21 ?_
    refine tt_aload_n X rfl dX5_knot_22 ?_
    refine tt_getr X fX5_21 (k_41 _ _) (by decide) ⟨nofun, nofun⟩ rfl dX5_knot_23 ?_
    refine tt_getr X fX5_37 (k_1 _ _) (by decide) ⟨nofun, nofun⟩ rfl dX5_knot_26 ?_
    refine tt_iload_n X rfl dX5_knot_29 ?_
    refine tt_iaload X (k_9 _ _) (by first | omega | (simp (disch := decide) only [ot_rd, ot_rs, ot_rf, ot_ucd, ot_ucs]; omega)) dX5_knot_30 ?_
    try simp (disch := decide) only [ot_rd, ot_rs, ot_rf, ot_ucd, ot_ucs]
    have hA := nA_eq hN (l := i) (by omega)
    refine tt_top hA.1 ?_
    refine tt_aload_n X rfl dX5_knot_31 ?_
    refine tt_getr X fX5_21 (k_41 _ _) (by decide) ⟨nofun, nofun⟩ rfl dX5_knot_32 ?_
    refine tt_getr X fX5_40 (k_1 _ _) (by decide) ⟨nofun, nofun⟩ rfl dX5_knot_35 ?_
    refine tt_iload_n X rfl dX5_knot_38 ?_
    refine tt_iaload X (k_10 _ _) (by first | omega | (simp (disch := decide) only [ot_rd, ot_rs, ot_rf, ot_ucd, ot_ucs]; omega)) dX5_knot_39 ?_
    try simp (disch := decide) only [ot_rd, ot_rs, ot_rf, ot_ucd, ot_ucs]
    refine tt_top hA.2.1 ?_
    refine tt_vv X rfl mX5_43 (c_netFlip l g ln ext _ (nA (μ 9) i) (nA (μ 10) i) hA.2.2.1 hA.2.2.2.1 hA.2.2.2.2 (joN (nA (μ 9)) (nA (μ 10)) i) (by simp (disch := decide) only [ot_rd, ot_rs, ot_rf, ot_ucd, ot_ucs, ot_rdf]; exact hI.2) (joN_lt hw (by omega))) (k_41 _ _) ⟨_, rfl, rfl⟩ rfl rfl (Nat.le_of_ble_eq_true rfl) (by decide) (by decide) (by decide) dX5_knot_40 (fun L40 μ40 hp => ?_)
    obtain ⟨rfl, F2, e40, hF2⟩ := hp
    subst e40
    refine tt_mem (μ' := ot_uc μ 42 F2) (by funext u; by_cases u2 : u = 42 <;> simp [ot_uc, u2]) ?_
    refine tt_iinc X dX5_knot_43 rfl (by decide) ?_
    refine tt_goto X 10 dX5_knot_46 (by decide) ?_
    refine tt_loc [(0, _), (1, _)] ⟨rfl, rfl, trivial⟩ ?_
    exact ih (i + 1, F2) ⟨by show ((i + 1 : Nat) : Int) ≤ _; omega, hF2⟩ (by show (μ 1 13).toNat - (i + 1) < (μ 1 13).toNat - i; omega)

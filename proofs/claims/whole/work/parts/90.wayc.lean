theorem wy_lt {A B : Nat → Nat} {M S a : Nat} {J : Nat → Nat} (hw : wfL A B M) (hg : goF A B M S a J) (k : Nat) (hk : k ≤ cnt S M) : (wyN J a k).1 < 24 := by
  obtain ⟨_, _, h⟩ := wy_ok hw hg k hk
  exact h.2.1
theorem knF_bound {A B : Nat → Nat} {M S : Nat} {J : Nat → Nat} {od : Nat} (hw : wfL A B M) (hJ : isJ A B M S J) : (knF J od 24).2.2.2 ≤ 24 ∧ (knF J od 24).2.2.1 ≤ 24 ∧ (knF J od 24).2.1 ≤ 600 := by
  have h1 := (knF_clo (od := od) hw hJ 24 (Nat.le_refl _)).2.2.2.1
  have h2 := cnt_le ((knF J od 24).1 &&& od) 24
  have h3 : ∀ p, (knF J od p).2.2.1 ≤ p ∧ (knF J od p).2.1 ≤ 12 * p := by
    intro p
    induction p with
    | zero => exact ⟨Nat.le_refl _, Nat.le_refl _⟩
    | succ p ih =>
      by_cases hc : J p ≠ 0 ∧ (knF J od p).1.testBit p = false
      · rw [knF_yes hc]
        dsimp only
        have := cnt_le (prt J p &&& od) 24
        omega
      · rw [knF_no hc]; omega
  have h4 := h3 24
  omega
set_option maxRecDepth 100000 in
set_option maxHeartbeats 1000000 in
theorem c_stepFrom (l : Launch) (g : ot_G) (ln : Nat) (ext : ot_L) (μ : ot_M) (a b : Nat) (ha : a < 24) (hb : b < 24) (J : Nat → Nat) (hJ : gJ (μ 42) J) (hlt : ∀ u, J u < 16777216) (haa : (J a).testBit a = false) (hst : stB J a b = true) (hls : ∀ u, u < b → stB J a u = false)  : ot_C l g yX5_stepFrom cX5_stepFrom 3 (some .int) 3 0 0 [.inr 41, .inl (a : Int)] (LL ln ext) μ (ot_pi (fun r L2 μ2 => L2 = LL ln ext ∧ r = (b : Int) ∧ ∃ F, μ2 = ot_uc μ 42 F ∧ gJ F (flp J a b))) := by
  refine ot_enter (by decide) (Nat.le_of_ble_eq_true rfl) ?_
  intro p e s m args below meth c X hr
  have hstb : ∀ u, stB J a u = ((J a).testBit u && hgB (flp J a u) u) := fun _ => rfl
  refine tt_iconst X dX5_stepFrom_0 ?_
  refine tt_istore_n X dX5_stepFrom_1 (by decide) ?_
  refine tt_mem (μ' := ot_uc μ 42 (μ 42)) (by rw [ot_uc_self]) ?_
  refine tt_loc [(0, _), (1, _), (2, _)] ⟨rfl, rfl, rfl, trivial⟩ ?_
  refine tt_loop (α := Nat × (Int → Int)) (fun ((t, F)) => 24 - t) (fun ((t, F)) => t ≤ b ∧ gJ F J) (fun ((t, F)) => ot_uc μ 42 F) (fun ((t, F)) => [(0, .inr 41), (1, .inl (a : Int)), (2, .inl (t : Int))]) (0, μ 42) ⟨Nat.zero_le _, hJ⟩ ?_
  intro a hI ih
  obtain ⟨t, F⟩ := a
  try dsimp only at hI ih ⊢
  replace hI : t ≤ b ∧ gJ F J := hI
  have htb0 := hI.1
  refine tt_iload_n X rfl dX5_stepFrom_2 ?_
  refine tt_bipush X (by decide) dX5_stepFrom_3 ?_
  refine tt_icmp_ge X 50 (by first | omega | (simp (disch := decide) only [ot_rd, ot_rs, ot_rf, ot_ucd, ot_ucs]; omega)) dX5_stepFrom_5 (by decide) (fun b5 => ?_) (fun b5 => ?_)
  · exact absurd b5 (by omega)
  · refine tt_aload_n X rfl dX5_stepFrom_8 ?_
    refine tt_getr X fX5_9 (k_41 _ _) (by decide) ⟨nofun, nofun⟩ rfl dX5_stepFrom_9 ?_
    refine tt_iload_n X rfl dX5_stepFrom_12 ?_
    refine tt_iaload X (k_42 _ _) (by first | omega | (simp (disch := decide) only [ot_rd, ot_rs, ot_rf, ot_ucd, ot_ucs]; omega)) dX5_stepFrom_13 ?_
    try simp (disch := decide) only [ot_rd, ot_rs, ot_rf, ot_ucd, ot_ucs]
    refine tt_top (hI.2 a ha) ?_
    refine tt_iload_n X rfl dX5_stepFrom_14 ?_
    refine tt_ishr X dX5_stepFrom_15 ?_
    refine tt_iconst X dX5_stepFrom_16 ?_
    refine tt_iand X dX5_stepFrom_17 ?_
    have hJa := hlt a
    refine tt_top (nt_test (m := J a) (i := t) (by omega) (by omega)) ?_
    refine tt_iconst X dX5_stepFrom_18 ?_
    refine tt_icmp_ne X 44 (by split <;> omega) dX5_stepFrom_19 (by decide) (fun b19 => ?_) (fun b19 => ?_)
    · refine tt_iinc X dX5_stepFrom_44 rfl (by decide) ?_
      refine tt_goto X 2 dX5_stepFrom_47 (by decide) ?_
      refine tt_loc [(0, _), (1, _), (2, _)] ⟨rfl, rfl, rfl, trivial⟩ ?_
      have htb : t ≠ b := by
        intro w
        subst w
        rw [hstb] at hst
        first
          | (rw [tb_nil (m := J a) (i := t) (by omega)] at hst; cases hst)
          | (cases hg : hgB (flp J a t) t
             · rw [hg, Bool.and_false] at hst; cases hst
             · rw [hg] at hz30; simp at hz30; omega)
      first
        | exact ih (t + 1, F3) ⟨by show t + 1 ≤ b; omega, hF3⟩ (by show 24 - (t + 1) < 24 - t; omega)
        | exact ih (t + 1, F) ⟨by show t + 1 ≤ b; omega, hI.2⟩ (by show 24 - (t + 1) < 24 - t; omega)
    · have hbt := tb_one (m := J a) (i := t) (by omega)
      have hat : a ≠ t := by
        intro w
        rw [← w, haa] at hbt
        cases hbt
      refine tt_aload_n X rfl dX5_stepFrom_22 ?_
      refine tt_iload_n X rfl dX5_stepFrom_23 ?_
      refine tt_iload_n X rfl dX5_stepFrom_24 ?_
      refine tt_vv X rfl mX5_43 (c_netFlip l g ln ext _ a t ha (by omega) hat J (by simp (disch := decide) only [ot_rd, ot_rs, ot_rf, ot_ucd, ot_ucs, ot_rdf]; exact hI.2) hlt) (k_41 _ _) ⟨_, rfl, rfl⟩ rfl rfl (Nat.le_of_ble_eq_true rfl) (by decide) (by decide) (by decide) dX5_stepFrom_25 (fun L25 μ25 hp => ?_)
      obtain ⟨rfl, F2, e25, hF2⟩ := hp
      subst e25
      refine tt_mem (μ' := ot_uc μ 42 F2) (by funext u; by_cases u2 : u = 42 <;> simp [ot_uc, u2]) ?_
      refine tt_aload_n X rfl dX5_stepFrom_28 ?_
      refine tt_iload_n X rfl dX5_stepFrom_29 ?_
      refine tt_vi X rfl mX5_94 (c_restHangs l g ln ext _ t (by omega) (flp J a t) (by simp (disch := decide) only [ot_rd, ot_rs, ot_rf, ot_ucd, ot_ucs, ot_rdf]; exact hF2) (flp_lt hlt ha (by omega))) (k_41 _ _) ⟨_, rfl, rfl⟩ rfl rfl (Nat.le_of_ble_eq_true rfl) (by decide) (by decide) (by decide) dX5_stepFrom_30 (fun z30 L30 μ30 hp => ?_)
      obtain ⟨rfl, e30, hz30⟩ := hp
      replace e30 := e30.symm
      subst e30
      try simp (disch := decide) only [ot_rd, ot_rs, ot_rf, ot_ucd, ot_ucs] at hz30
      refine tt_if_eq X 38 (by rw [hz30]; split <;> omega) dX5_stepFrom_33 (by decide) (fun b33 => ?_) (fun b33 => ?_)
      · refine tt_aload_n X rfl dX5_stepFrom_38 ?_
        refine tt_iload_n X rfl dX5_stepFrom_39 ?_
        refine tt_iload_n X rfl dX5_stepFrom_40 ?_
        refine tt_vv X rfl mX5_43 (c_netFlip l g ln ext _ a t ha (by omega) hat (flp J a t) (by simp (disch := decide) only [ot_rd, ot_rs, ot_rf, ot_ucd, ot_ucs, ot_rdf]; exact hF2) (flp_lt hlt ha (by omega))) (k_41 _ _) ⟨_, rfl, rfl⟩ rfl rfl (Nat.le_of_ble_eq_true rfl) (by decide) (by decide) (by decide) dX5_stepFrom_41 (fun L41 μ41 hp => ?_)
        obtain ⟨rfl, F3, e41, hF3⟩ := hp
        subst e41
        rw [flp_flp hat] at hF3
        refine tt_mem (μ' := ot_uc μ 42 F3) (by funext u; by_cases u2 : u = 42 <;> simp [ot_uc, u2]) ?_
        refine tt_iinc X dX5_stepFrom_44 rfl (by decide) ?_
        refine tt_goto X 2 dX5_stepFrom_47 (by decide) ?_
        refine tt_loc [(0, _), (1, _), (2, _)] ⟨rfl, rfl, rfl, trivial⟩ ?_
        have htb : t ≠ b := by
          intro w
          subst w
          rw [hstb] at hst
          first
            | (rw [tb_nil (m := J a) (i := t) (by omega)] at hst; cases hst)
            | (cases hg : hgB (flp J a t) t
               · rw [hg, Bool.and_false] at hst; cases hst
               · rw [hg] at hz30; simp at hz30; omega)
        first
          | exact ih (t + 1, F3) ⟨by show t + 1 ≤ b; omega, hF3⟩ (by show 24 - (t + 1) < 24 - t; omega)
          | exact ih (t + 1, F) ⟨by show t + 1 ≤ b; omega, hI.2⟩ (by show 24 - (t + 1) < 24 - t; omega)
      · refine tt_iload_n X rfl dX5_stepFrom_36 ?_
        refine tt_iret X ⟨hr.1, hr.2.1⟩ (by decide) (by decide) dX5_stepFrom_37 ?_
        have hg : hgB (flp J a t) t = true := by
          cases hg : hgB (flp J a t) t
          · rw [hg] at hz30; simp at hz30; omega
          · rfl
        have htb : t = b := by
          apply Classical.byContradiction
          intro w
          have := hls t (by omega)
          rw [hstb, hbt, hg] at this
          cases this
        subst htb
        exact ⟨rfl, rfl, F2, rfl, hF2⟩
set_option maxRecDepth 100000 in
set_option maxHeartbeats 1000000 in
theorem c_startOfWay (l : Launch) (g : ot_G) (ln : Nat) (ext : ot_L) (μ : ot_M) (a : Nat) (J : Nat → Nat) (hJ : gJ (μ 42) J) (hlt : ∀ u, J u < 16777216) (h1 : 0 < μ 41 5 → μ 43 0 = (a : Int)) (h2 : μ 41 5 ≤ 0 → a < 24 ∧ J a ≠ 0 ∧ ∀ u, u < a → J u = 0) (ho : 0 ≤ μ 41 5 ∧ μ 41 5 ≤ 24)  : ot_C l g yX5_startOfWay cX5_startOfWay 2 (some .int) 0 0 0 [.inr 41] (LL ln ext) μ (ot_pi (fun r L2 μ2 => L2 = LL ln ext ∧ μ2 = μ ∧ r = (a : Int))) := by
  refine ot_enter (by decide) (Nat.le_of_ble_eq_true rfl) ?_
  intro p e s m args below meth c X hr
  refine tt_aload_n X rfl dX5_startOfWay_0 ?_
  refine tt_geti X fX5_50 (k_41 _ _) (by decide) (Or.inl rfl) dX5_startOfWay_1 ?_
  refine tt_if_le X 14 (by omega) dX5_startOfWay_4 (by decide) (fun b4 => ?_) (fun b4 => ?_)
  · refine tt_iconst X dX5_startOfWay_14 ?_
    refine tt_istore_n X dX5_startOfWay_15 (by decide) ?_
    have h3 := h2 (by omega)
    refine tt_loc [(0, _), (1, _)] ⟨rfl, rfl, trivial⟩ ?_
    refine tt_loop (α := Nat) (fun t => 24 - t) (fun t => t ≤ a) (fun t => μ) (fun t => [(0, .inr 41), (1, .inl (t : Int))]) 0 (Nat.zero_le _) ?_
    intro t hI ih
    try dsimp only at hI ih ⊢
    refine tt_iload_n X rfl dX5_startOfWay_16 ?_
    refine tt_bipush X (by decide) dX5_startOfWay_17 ?_
    refine tt_icmp_ge X 39 (by first | omega | (simp (disch := decide) only [ot_rd, ot_rs, ot_rf, ot_ucd, ot_ucs]; omega)) dX5_startOfWay_19 (by decide) (fun b19 => ?_) (fun b19 => ?_)
    · exact absurd b19 (by omega)
    · refine tt_aload_n X rfl dX5_startOfWay_22 ?_
      refine tt_getr X fX5_9 (k_41 _ _) (by decide) ⟨nofun, nofun⟩ rfl dX5_startOfWay_23 ?_
      refine tt_iload_n X rfl dX5_startOfWay_26 ?_
      refine tt_iaload X (k_42 _ _) (by first | omega | (simp (disch := decide) only [ot_rd, ot_rs, ot_rf, ot_ucd, ot_ucs]; omega)) dX5_startOfWay_27 ?_
      try simp (disch := decide) only [ot_rd, ot_rs, ot_rf, ot_ucd, ot_ucs]
      refine tt_top (hJ t (by omega)) ?_
      refine tt_if_eq X 33 (by have := hlt t; omega) dX5_startOfWay_28 (by decide) (fun b28 => ?_) (fun b28 => ?_)
      · refine tt_iinc X dX5_startOfWay_33 rfl (by decide) ?_
        refine tt_goto X 16 dX5_startOfWay_36 (by decide) ?_
        refine tt_loc [(0, _), (1, _)] ⟨rfl, rfl, trivial⟩ ?_
        have hta : t ≠ a := by
          intro w
          subst w
          exact h3.2.1 (by omega)
        exact ih (t + 1) (by omega) (by omega)
      · refine tt_iload_n X rfl dX5_startOfWay_31 ?_
        refine tt_iret X ⟨hr.1, hr.2.1⟩ (by decide) (by decide) dX5_startOfWay_32 ?_
        have hta : t = a := by
          apply Classical.byContradiction
          intro w
          have := h3.2.2 t (by omega)
          omega
        exact ⟨rfl, rfl, by omega⟩
  · refine tt_aload_n X rfl dX5_startOfWay_7 ?_
    refine tt_getr X fX5_15 (k_41 _ _) (by decide) ⟨nofun, nofun⟩ rfl dX5_startOfWay_8 ?_
    refine tt_iconst X dX5_startOfWay_11 ?_
    refine tt_iaload X (k_43 _ _) (by omega) dX5_startOfWay_12 ?_
    refine tt_iret X ⟨hr.1, hr.2.1⟩ (by decide) (by decide) dX5_startOfWay_13 ?_
    exact ⟨rfl, rfl, h1 (by omega)⟩
set_option maxRecDepth 100000 in
set_option maxHeartbeats 1000000 in
theorem c_pinOnWay (l : Launch) (g : ot_G) (ln : Nat) (ext : ot_L) (μ : ot_M) (a i : Nat) (J : Nat → Nat) (hJ : gJ (μ 42) J) (hlt : ∀ u, J u < 16777216) (h1 : 0 < μ 41 5 → μ 43 0 = (a : Int)) (h2 : μ 41 5 ≤ 0 → a < 24 ∧ J a ≠ 0 ∧ ∀ u, u < a → J u = 0) (ho : 0 ≤ μ 41 5 ∧ μ 41 5 ≤ 24) (hi20 : i ≤ 20) (A B : Nat → Nat) (M S : Nat) (hw : wfL A B M) (hg : goF A B M S a J) (hi : i ≤ cnt S M)  : ot_C l g yX5_pinOnWay cX5_pinOnWay 4 (some .int) 4 0 0 [.inr 41, .inl (i : Int)] (LL ln ext) μ (ot_pi (fun r L2 μ2 => L2 = LL ln ext ∧ r = ((wyN J a i).1 : Int) ∧ ∃ F, μ2 = ot_uc μ 42 F)) := by
  refine ot_enter (by decide) (Nat.le_of_ble_eq_true rfl) ?_
  intro p e s m args below meth c X hr
  refine tt_aload_n X rfl dX5_pinOnWay_0 ?_
  refine tt_vi X rfl mX5_87 (c_startOfWay l g ln ext _ a J hJ hlt h1 h2 ho) (k_41 _ _) ⟨_, rfl, rfl⟩ rfl rfl (Nat.le_of_ble_eq_true rfl) (by decide) (by decide) (by decide) dX5_pinOnWay_1 (fun z1 L1 μ1 hp => ?_)
  obtain ⟨rfl, e1, hz1⟩ := hp
  replace e1 := e1.symm
  subst e1
  try simp (disch := decide) only [ot_rd, ot_rs, ot_rf, ot_ucd, ot_ucs] at hz1
  refine tt_top hz1 ?_
  refine tt_istore_n X dX5_pinOnWay_4 (by decide) ?_
  refine tt_iconst X dX5_pinOnWay_5 ?_
  refine tt_istore_n X dX5_pinOnWay_6 (by decide) ?_
  refine tt_mem (μ' := ot_uc μ 42 (μ 42)) (by rw [ot_uc_self]) ?_
  refine tt_loc [(0, _), (1, _), (2, _), (3, _)] ⟨rfl, rfl, rfl, rfl, trivial⟩ ?_
  refine tt_loop (α := Nat × (Int → Int)) (fun ((r, F)) => i - r) (fun ((r, F)) => r ≤ i ∧ gJ F (wyN J a r).2) (fun ((r, F)) => ot_uc μ 42 F) (fun ((r, F)) => [(0, .inr 41), (1, .inl (i : Int)), (2, .inl ((wyN J a r).1 : Int)), (3, .inl (r : Int))]) (0, μ 42) ⟨Nat.zero_le _, hJ⟩ ?_
  intro a hI ih
  obtain ⟨r, F⟩ := a
  try dsimp only at hI ih ⊢
  replace hI : r ≤ i ∧ gJ F (wyN J a r).2 := hI
  have hri := hI.1
  refine tt_iload_n X rfl dX5_pinOnWay_7 ?_
  refine tt_iload_n X rfl dX5_pinOnWay_8 ?_
  refine tt_icmp_ge X 29 (by first | omega | (simp (disch := decide) only [ot_rd, ot_rs, ot_rf, ot_ucd, ot_ucs]; omega)) dX5_pinOnWay_9 (by decide) (fun b9 => ?_) (fun b9 => ?_)
  · refine tt_iload_n X rfl dX5_pinOnWay_29 ?_
    refine tt_iret X ⟨hr.1, hr.2.1⟩ (by decide) (by decide) dX5_pinOnWay_30 ?_
    have hr2 : r = i := by omega
    subst hr2
    exact ⟨rfl, rfl, F, rfl⟩
  · refine tt_iload_n X rfl dX5_pinOnWay_12 ?_
    refine tt_iconst X dX5_pinOnWay_13 ?_
    refine tt_icmp_eq X 29 (by have := wy_lt hw hg r (by omega); omega) dX5_pinOnWay_14 (by decide) (fun b14 => ?_) (fun b14 => ?_)
    · exact absurd b14 (by have := wy_lt hw hg r (by omega); omega)
    · obtain ⟨S3, hS3, hS2⟩ := wy_ok hw hg r (by omega)
      have hst := stp_ok hw hS2 (cnt_pos M (by omega))
      have haa : ((wyN J a r).2 (wyN J a r).1).testBit (wyN J a r).1 = false := by
        rw [Bool.eq_false_iff]
        intro w
        obtain ⟨l0, q1, _, q3⟩ := (hS2.1 _ _).mp w
        exact (bet_ne hw q1 q3).1 rfl
      refine tt_aload_n X rfl dX5_pinOnWay_17 ?_
      refine tt_iload_n X rfl dX5_pinOnWay_18 ?_
      refine tt_vi X rfl mX5_91 (c_stepFrom l g ln ext _ (wyN J a r).1 (stp (wyN J a r).2 (wyN J a r).1) hS2.2.1 hst.1 (wyN J a r).2 (by simp (disch := decide) only [ot_rd, ot_rs, ot_rf, ot_ucd, ot_ucs, ot_rdf]; exact hI.2) (fun u => isJ_lt hw hS2.1 u) haa hst.2.1 hst.2.2.1) (k_41 _ _) ⟨_, rfl, rfl⟩ rfl rfl (Nat.le_of_ble_eq_true rfl) (by decide) (by decide) (by decide) dX5_pinOnWay_19 (fun z19 L19 μ19 hp => ?_)
      obtain ⟨rfl, hz19, F2, e19, hF2⟩ := hp
      subst e19
      refine tt_mem (μ' := ot_uc μ 42 F2) (by funext u; by_cases u2 : u = 42 <;> simp [ot_uc, u2]) ?_
      refine tt_top hz19 ?_
      refine tt_istore_n X dX5_pinOnWay_22 (by decide) ?_
      refine tt_iinc X dX5_pinOnWay_23 rfl (by decide) ?_
      refine tt_goto X 7 dX5_pinOnWay_26 (by decide) ?_
      refine tt_loc [(0, _), (1, _), (2, _), (3, _)] ⟨rfl, rfl, rfl, rfl, trivial⟩ ?_
      have h3 := ih (r + 1, F2) ⟨by show r + 1 ≤ i; omega, by rw [wyN_s]; dsimp only; exact hF2⟩ (by show i - (r + 1) < i - r; omega)
      dsimp only at h3
      rw [wyN_s] at h3
      dsimp only at h3
      exact h3
theorem one_list {A B : Nat → Nat} {M S : Nat} {J : Nat → Nat} {od : Nat} {G : Int → Int} (hw : wfL A B M) (hJ : isJ A B M S J) (ho : od = oddN A B S M) (h : (knF J od 24).2.1 = 1) (hG : (knF J od 24).2.2.1 = 1 → ∀ u, u < 24 → ((knF J od 24).1 &&& od).testBit u = true → G (cnt ((knF J od 24).1 &&& od) u : Int) = (u : Int)) : (knF J od 24).2.2.2 = cnt od 24 ∧ (0 < (((knF J od 24).2.2.2 : Nat) : Int) → G 0 = (stA J od : Int)) ∧ ((((knF J od 24).2.2.2 : Nat) : Int) ≤ 0 → stA J od < 24 ∧ J (stA J od) ≠ 0 ∧ ∀ u, u < stA J od → J u = 0) := by
  obtain ⟨h1, h2, h3, h4, h5⟩ := one_thread hw hJ ho h
  have hc := (knF_clo (od := od) hw hJ 24 (Nat.le_refl _)).2.2.2.1
  have hsub : (knF J od 24).1 &&& od = od := by
    refine Nat.eq_of_testBit_eq (fun i => ?_)
    rw [Nat.testBit_and]
    cases w : od.testBit i
    · simp
    · rw [h3 i ((isJ_pin hJ i).mp (oddN_pin i M (by rw [← ho]; exact w)))]; rfl
  rw [hsub] at hc hG
  have hG2 := hG h2
  refine ⟨hc, ?_, ?_⟩
  · intro hp
    have hne : od ≠ 0 := by
      intro e
      rw [hc, e, cnt_zero] at hp
      omega
    have h6 := h4 hne
    have := hG2 _ h1.2.1 h6.1
    rw [cnt_none _ (fun i hi => h6.2 i hi)] at this
    exact this
  · intro hp
    have he : od = 0 := by
      apply Classical.byContradiction
      intro hne
      have := cnt_some 24 h1.2.1 (h4 hne).1
      omega
    exact ⟨h1.2.1, h5 he⟩
set_option maxRecDepth 100000 in
set_option maxHeartbeats 1000000 in
theorem c_order (l : Launch) (g : ot_G) (ln : Nat) (ext : ot_L) (μ : ot_M) (i : Int) (hi : -2147483648 ≤ i ∧ i ≤ 2147483647)(hN : gNet (μ 1 13) (μ 9) (μ 10)) (J : Nat → Nat) (hJe : J = joN (nA (μ 9)) (nA (μ 10)) (μ 1 13).toNat) (od : Nat) (hode : od = oddN (nA (μ 9)) (nA (μ 10)) (2 ^ (μ 1 13).toNat - 1) (μ 1 13).toNat)  : ot_C l g yX9_order cX9_order 2 (some .int) 5 0 0 [.inr 0, .inl i] (LL ln ext) μ (ot_pi (fun r L2 μ2 => L2 = LL ln ext ∧ (∃ F G, μ2 = ot_up (ot_up (ot_up (ot_uc (ot_uc μ 42 F) 43 G) 41 4 ((knF J od 24).2.1 : Int)) 41 5 ((knF J od 24).2.2.2 : Int)) 41 6 ((knF J od 24).2.2.1 : Int)) ∧ r = (if ((knF J od 24).2.1 = 1 ∧ 0 ≤ i ∧ i ≤ μ 1 13) then ((wyN J (stA J od) (i).toNat).1 : Int) else -1))) := by
  refine ot_enter (by decide) (Nat.le_of_ble_eq_true rfl) ?_
  intro p e s m args below meth c X hr
  have hM := hN.1
  have hw := hN.2.2
  have hJ0 := joN_is hw
  rw [← hJe] at hJ0
  have hlt : ∀ u, J u < 16777216 := fun u => by rw [hJe]; exact joN_lt hw (Nat.le_refl _) u
  have hkb := knF_bound (od := od) hw hJ0
  refine tt_aload_n X rfl dX9_order_0 ?_
  refine tt_getr X fX9_40 (k_0 _ _) (by decide) ⟨nofun, nofun⟩ rfl dX9_order_1 ?_
  refine tt_vv X rfl mX9_243 (c_knot l g ln ext _ hN J hJe od hode) (k_41 _ _) ⟨_, rfl, rfl⟩ rfl rfl (Nat.le_of_ble_eq_true rfl) (by decide) (by decide) (by decide) dX9_order_4 (fun L4 μ4 hp => ?_)
  obtain ⟨rfl, F, G, hFJ, hLs, e4⟩ := hp
  subst e4
  refine tt_aload_n X rfl dX9_order_7 ?_
  refine tt_getr X fX9_40 (k_0 _ _) (by decide) ⟨nofun, nofun⟩ rfl dX9_order_8 ?_
  refine tt_geti X fX9_246 (k_41 _ _) (by decide) (Or.inl rfl) dX9_order_11 ?_
  try simp (disch := decide) only [ot_rd, ot_rs, ot_rf, ot_ucd, ot_ucs]
  refine tt_iconst X dX9_order_14 ?_
  refine tt_icmp_ne X 33 (by first | omega | (simp (disch := decide) only [ot_rd, ot_rs, ot_rf, ot_ucd, ot_ucs]; omega)) dX9_order_15 (by decide) (fun b15 => ?_) (fun b15 => ?_)
  · refine tt_iconst X dX9_order_33 ?_
    refine tt_iret X ⟨hr.1, hr.2.1⟩ (by decide) (by decide) dX9_order_34 ?_
    first
      | exact ⟨rfl, ⟨F, G, rfl⟩, by rw [if_neg (by omega)]⟩
      | exact ⟨rfl, ⟨F2, G, rfl⟩, by rw [if_pos ⟨h1t, by omega, by omega⟩]; exact hz40⟩
  · refine tt_iload_n X rfl dX9_order_18 ?_
    refine tt_if_lt X 33 (by first | omega | (simp (disch := decide) only [ot_rd, ot_rs, ot_rf, ot_ucd, ot_ucs]; omega)) dX9_order_19 (by decide) (fun b19 => ?_) (fun b19 => ?_)
    · refine tt_iconst X dX9_order_33 ?_
      refine tt_iret X ⟨hr.1, hr.2.1⟩ (by decide) (by decide) dX9_order_34 ?_
      first
        | exact ⟨rfl, ⟨F, G, rfl⟩, by rw [if_neg (by omega)]⟩
        | exact ⟨rfl, ⟨F2, G, rfl⟩, by rw [if_pos ⟨h1t, by omega, by omega⟩]; exact hz40⟩
    · refine tt_iload_n X rfl dX9_order_22 ?_
      refine tt_aload_n X rfl dX9_order_23 ?_
      refine tt_getr X fX9_12 (k_0 _ _) (by decide) ⟨nofun, nofun⟩ rfl dX9_order_24 ?_
      refine tt_geti X fX9_233 (k_1 _ _) (by decide) (Or.inl rfl) dX9_order_27 ?_
      try simp (disch := decide) only [ot_rd, ot_rs, ot_rf, ot_ucd, ot_ucs]
      refine tt_icmp_le X 35 (by first | omega | (simp (disch := decide) only [ot_rd, ot_rs, ot_rf, ot_ucd, ot_ucs]; omega)) dX9_order_30 (by decide) (fun b30 => ?_) (fun b30 => ?_)
      · refine tt_aload_n X rfl dX9_order_35 ?_
        refine tt_getr X fX9_40 (k_0 _ _) (by decide) ⟨nofun, nofun⟩ rfl dX9_order_36 ?_
        refine tt_iload_n X rfl dX9_order_39 ?_
        have h1t : (knF J od 24).2.1 = 1 := by omega
        have hot := one_thread hw hJ0 hode h1t
        have hol := one_list hw hJ0 hode h1t hLs
        refine tt_top (y := ((i.toNat : Nat) : Int)) (by omega) ?_
        refine tt_vi X rfl mX9_264 (c_pinOnWay l g ln ext _ (stA J od) i.toNat J (by simp (disch := decide) only [ot_rd, ot_rs, ot_rf, ot_ucd, ot_ucs, ot_rdf]; exact hFJ) hlt (by simp (disch := decide) only [ot_rd, ot_rs, ot_rf, ot_ucd, ot_ucs, ot_rdf]; exact hol.2.1) (by simp (disch := decide) only [ot_rd, ot_rs, ot_rf, ot_ucd, ot_ucs, ot_rdf]; exact hol.2.2) (by simp (disch := decide) only [ot_rd, ot_rs, ot_rf, ot_ucd, ot_ucs, ot_rdf]; omega) (by omega) _ _ _ _ hw hot.1 (by rw [cnt_all _ _ (Nat.le_refl _)]; omega)) (k_41 _ _) ⟨_, rfl, rfl⟩ rfl rfl (Nat.le_of_ble_eq_true rfl) (by decide) (by decide) (by decide) dX9_order_40 (fun z40 L40 μ40 hp => ?_)
        obtain ⟨rfl, hz40, F2, e40⟩ := hp
        subst e40
        refine tt_mem (μ' := ot_up (ot_up (ot_up (ot_uc (ot_uc μ 42 F2) 43 G) 41 4 ((knF J od 24).2.1 : Int)) 41 5 ((knF J od 24).2.2.2 : Int)) 41 6 ((knF J od 24).2.2.1 : Int)) (by funext q1 c1; by_cases w1 : q1 = 41 <;> by_cases w2 : q1 = 42 <;> by_cases w3 : q1 = 43 <;> simp [ot_up, ot_uc, w1, w2, w3] <;> omega) ?_
        refine tt_iret X ⟨hr.1, hr.2.1⟩ (by decide) (by decide) dX9_order_43 ?_
        first
          | exact ⟨rfl, ⟨F, G, rfl⟩, by rw [if_neg (by omega)]⟩
          | exact ⟨rfl, ⟨F2, G, rfl⟩, by rw [if_pos ⟨h1t, by omega, by omega⟩]; exact hz40⟩
      · refine tt_iconst X dX9_order_33 ?_
        refine tt_iret X ⟨hr.1, hr.2.1⟩ (by decide) (by decide) dX9_order_34 ?_
        first
          | exact ⟨rfl, ⟨F, G, rfl⟩, by rw [if_neg (by omega)]⟩
          | exact ⟨rfl, ⟨F2, G, rfl⟩, by rw [if_pos ⟨h1t, by omega, by omega⟩]; exact hz40⟩

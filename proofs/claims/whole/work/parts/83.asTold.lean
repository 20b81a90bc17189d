theorem cntN_zero {f : Int → Int} (h : ∀ k, 0 ≤ k → k < 64 → f k = 0) : cntN f = 0 := sumN_zero (fun k k1 k2 => if_neg (fun q => q (h k k1 (by omega))))
theorem cntN_one {f : Int → Int} {k : Int} (h1 : 0 ≤ k) (h2 : k < 64) (h : f k ≠ 0) : cntN f ≠ 0 := by
  have := sumN_pos (f := fun k => if f k ≠ 0 then 1 else 0) (n := 64) (i := k) (fun i _ _ => by show (0 : Int) ≤ if _ then 1 else 0; split <;> omega) h1 h2 (by show (0 : Int) < if _ then 1 else 0; rw [if_pos h]; omega)
  unfold cntN
  omega
set_option maxRecDepth 100000 in
set_option maxHeartbeats 1000000 in
theorem q_areAsTold (l : Launch) (g : ot_G) (ln : Nat) (ext : ot_L) (μ : ot_M) (x : Int) (dl : Int → Int → Int) (hdl : dl = (fun x k => dkL (μ 60 1) (μ 61) (μ 62) (μ 69) (μ 70) (μ 60 11).toNat x k)) (hx : 0 ≤ x ∧ x < 2147483648) (hM : 0 ≤ μ 60 11 ∧ μ 60 11 ≤ 20) (hG : gPin (μ 60 1) (μ 60 2) (μ 61) (μ 62)) (hset : ∀ i, 0 ≤ i → i < μ 60 11 → (0 ≤ μ 69 i ∧ μ 69 i < μ 60 2) ∧ (0 ≤ μ 70 i ∧ μ 70 i < μ 60 2) ∧ μ 69 i ≠ μ 70 i) (htl : ∀ k, 0 ≤ k → k < 64 → 0 ≤ μ 68 k ∧ μ 68 k ≤ 10000)  : ot_C l g yX10_areAsTold cX10_areAsTold 3 (some .boolean) 4 0 0 [.inr 60, .inl x] (LL ln ext) μ (ot_pi (fun r L2 μ2 => L2 = LL ln ext ∧ r = (if vlS (fun k => μ 68 k - 1) dl x then 1 else 0) ∧ ∃ f D, μ2 = ot_uc (ot_uc μ 82 f) 83 D)) := by
  refine ot_enter (by decide) (Nat.le_of_ble_eq_true rfl) ?_
  intro p e s m args below meth c X hr
  refine tt_iconst X dX10_areAsTold_0 ?_
  refine tt_istore_n X dX10_areAsTold_1 (by decide) ?_
  refine tt_mem (μ' := ot_uc (ot_uc μ 82 (μ 82)) 83 (wr 0 (μ 83) (fun _ => 0))) (by rw [wr_zero]; funext u; by_cases u2 : u = 82 <;> by_cases u3 : u = 83 <;> simp [ot_uc, u2, u3]) ?_
  refine tt_loc [(0, _), (1, _), (2, _)] ⟨rfl, rfl, rfl, trivial⟩ ?_
  refine tt_loop (α := Int) (fun c0 => (64 - c0).toNat) (fun c0 => 0 ≤ c0 ∧ c0 ≤ 64) (fun c0 => ot_uc (ot_uc μ 82 (μ 82)) 83 (wr c0 (μ 83) (fun _ => 0))) (fun c0 => [(0, .inr 60), (1, .inl x), (2, .inl c0)]) 0 (by omega) ?_
  intro c0 hI ih
  try dsimp only at hI ih ⊢
  refine tt_iload_n X rfl dX10_areAsTold_2 ?_
  refine tt_bipush X (by decide) dX10_areAsTold_3 ?_
  refine tt_icmp_ge X 21 (by first | omega | (simp (disch := decide) only [ot_rd, ot_rs, ot_rf, ot_ucd, ot_ucs]; omega)) dX10_areAsTold_5 (by decide) (fun b5 => ?_) (fun b5 => ?_)
  · refine tt_iconst X dX10_areAsTold_21 ?_
    refine tt_istore_n X dX10_areAsTold_22 (by decide) ?_
    have hc0 : c0 = 64 := by omega
    subst hc0
    refine tt_loc [(0, _), (1, _), (2, _)] ⟨rfl, rfl, rfl, trivial⟩ ?_
    refine tt_loop (α := Int × (Int → Int)) (fun ((i, f)) => (μ 60 11 - i).toNat) (fun ((i, f)) => 0 ≤ i ∧ i ≤ μ 60 11) (fun ((i, f)) => ot_uc (ot_uc μ 82 f) 83 (wr 64 (μ 83) (fun k => sumN (fun l => if bt x l then smp (μ 60 1) (μ 61) (μ 62) (μ 69 l) (μ 70 l) k else 0) (i).toNat))) (fun ((i, f)) => [(0, .inr 60), (1, .inl x), (2, .inl i)]) (0, μ 82) (by show 0 ≤ (0 : Int) ∧ (0 : Int) ≤ μ 60 11; omega) ?_
    intro a hIi ihi
    obtain ⟨i, f⟩ := a
    try dsimp only at hIi ihi ⊢
    replace hIi : 0 ≤ i ∧ i ≤ μ 60 11 := hIi
    have hi := hIi
    refine tt_iload_n X rfl dX10_areAsTold_23 ?_
    refine tt_aload_n X rfl dX10_areAsTold_24 ?_
    refine tt_geti X fX10_108 (k_60 _ _) (by decide) (Or.inl rfl) dX10_areAsTold_25 ?_
    try simp (disch := decide) only [ot_rd, ot_rs, ot_rf, ot_ucd, ot_ucs]
    refine tt_icmp_ge X 63 (by first | omega | (simp (disch := decide) only [ot_rd, ot_rs, ot_rf, ot_ucd, ot_ucs]; omega)) dX10_areAsTold_28 (by decide) (fun b28 => ?_) (fun b28 => ?_)
    · refine tt_iconst X dX10_areAsTold_63 ?_
      refine tt_istore_n X dX10_areAsTold_64 (by decide) ?_
      have hdk : ∀ k, 0 ≤ k → k < 64 → dl x k = wr 64 (μ 83) (fun k => sumN (fun l => if bt x l then smp (μ 60 1) (μ 61) (μ 62) (μ 69 l) (μ 70 l) k else 0) (i).toNat) k := fun k k1 k2 => by rw [wr_in ⟨k1, k2⟩, hdl, show i = μ 60 11 by omega]; rfl
      have hset2 : ∀ i : Int, 0 ≤ i → i < ((μ 60 11).toNat : Int) → (0 ≤ μ 69 i ∧ μ 69 i < μ 60 2) ∧ (0 ≤ μ 70 i ∧ μ 70 i < μ 60 2) ∧ μ 69 i ≠ μ 70 i := fun i i1 i2 => hset i i1 (by omega)
      have hdb : ∀ k, 0 ≤ dl x k ∧ dl x k ≤ 160 := fun k => by rw [hdl]; exact dkL_bd hG (by omega) hset2
      refine tt_loc [(0, _), (1, _), (2, _)] ⟨rfl, rfl, rfl, trivial⟩ ?_
      refine tt_loop (α := Int) (fun k => (64 - k).toNat) (fun k => (0 ≤ k ∧ k ≤ 64) ∧ ∀ j, 0 ≤ j → j < k → lkS (fun k => μ 68 k - 1) dl x j = 0) (fun k => ot_uc (ot_uc μ 82 f) 83 (wr 64 (μ 83) (fun k => sumN (fun l => if bt x l then smp (μ 60 1) (μ 61) (μ 62) (μ 69 l) (μ 70 l) k else 0) (i).toNat))) (fun k => [(0, .inr 60), (1, .inl x), (2, .inl k)]) 0 ⟨by omega, fun j j1 j2 => by omega⟩ ?_
      intro k hI ih
      try dsimp only at hI ih ⊢
      have hk := hI.1
      refine tt_iload_n X rfl dX10_areAsTold_65 ?_
      refine tt_bipush X (by decide) dX10_areAsTold_66 ?_
      refine tt_icmp_ge X 105 (by first | omega | (simp (disch := decide) only [ot_rd, ot_rs, ot_rf, ot_ucd, ot_ucs]; omega)) dX10_areAsTold_68 (by decide) (fun b68 => ?_) (fun b68 => ?_)
      · refine tt_iconst X dX10_areAsTold_105 ?_
        refine tt_zret X ⟨hr.1, hr.2.1⟩ (by omega) (by decide) (by decide) dX10_areAsTold_106 ?_
        refine ⟨rfl, ?_, _, _, rfl⟩
        have hv : vlS (fun k => μ 68 k - 1) dl x = true := decide_eq_true (cntN_zero (fun j j1 j2 => hI.2 j j1 (by omega)))
        rw [hv]; rfl
      · have htk := htl k (by omega) (by omega)
        have hdkk := hdk k (by omega) (by omega)
        have hdbk := hdb k
        refine tt_aload_n X rfl dX10_areAsTold_71 ?_
        refine tt_getr X fX10_35 (k_60 _ _) (by decide) ⟨nofun, nofun⟩ rfl dX10_areAsTold_72 ?_
        refine tt_iload_n X rfl dX10_areAsTold_75 ?_
        refine tt_iaload X (k_68 _ _) (by first | omega | (simp (disch := decide) only [ot_rd, ot_rs, ot_rf, ot_ucd, ot_ucs]; omega)) dX10_areAsTold_76 ?_
        try simp (disch := decide) only [ot_rd, ot_rs, ot_rf, ot_ucd, ot_ucs]
        refine tt_if_le X 99 (by first | omega | (simp (disch := decide) only [ot_rd, ot_rs, ot_rf, ot_ucd, ot_ucs]; omega)) dX10_areAsTold_77 (by decide) (fun b77 => ?_) (fun b77 => ?_)
        · refine tt_iinc X dX10_areAsTold_99 rfl (by decide) ?_
          refine tt_goto X 65 dX10_areAsTold_102 (by decide) ?_
          refine tt_loc [(0, _), (1, _), (2, _)] ⟨rfl, rfl, rfl, trivial⟩ ?_
          refine ih (k + 1) ⟨by omega, fun j j1 j2 => ?_⟩ (by omega)
          rcases (show j < k ∨ j = k by omega) with w | w
          · exact hI.2 j j1 w
          · subst w
            unfold lkS
            dsimp only
            first
              | (rw [if_pos (by omega)]; done)
              | (rw [if_neg (by omega), hdk j (by omega) (by omega)]; omega)
        · refine tt_aload_n X rfl dX10_areAsTold_80 ?_
          refine tt_getr X fX10_83 (k_60 _ _) (by decide) ⟨nofun, nofun⟩ rfl dX10_areAsTold_81 ?_
          refine tt_iload_n X rfl dX10_areAsTold_84 ?_
          refine tt_iaload X (k_83 _ _) (by first | omega | (simp (disch := decide) only [ot_rd, ot_rs, ot_rf, ot_ucd, ot_ucs]; omega)) dX10_areAsTold_85 ?_
          try simp (disch := decide) only [ot_rd, ot_rs, ot_rf, ot_ucd, ot_ucs]
          refine tt_aload_n X rfl dX10_areAsTold_86 ?_
          refine tt_getr X fX10_35 (k_60 _ _) (by decide) ⟨nofun, nofun⟩ rfl dX10_areAsTold_87 ?_
          refine tt_iload_n X rfl dX10_areAsTold_90 ?_
          refine tt_iaload X (k_68 _ _) (by first | omega | (simp (disch := decide) only [ot_rd, ot_rs, ot_rf, ot_ucd, ot_ucs]; omega)) dX10_areAsTold_91 ?_
          try simp (disch := decide) only [ot_rd, ot_rs, ot_rf, ot_ucd, ot_ucs]
          refine tt_iconst X dX10_areAsTold_92 ?_
          refine tt_isub X dX10_areAsTold_93 ?_
          refine tt_icmp_eq X 99 (by first | omega | (simp (disch := decide) only [ot_rd, ot_rs, ot_rf, ot_ucd, ot_ucs]; omega)) dX10_areAsTold_94 (by decide) (fun b94 => ?_) (fun b94 => ?_)
          · refine tt_iinc X dX10_areAsTold_99 rfl (by decide) ?_
            refine tt_goto X 65 dX10_areAsTold_102 (by decide) ?_
            refine tt_loc [(0, _), (1, _), (2, _)] ⟨rfl, rfl, rfl, trivial⟩ ?_
            refine ih (k + 1) ⟨by omega, fun j j1 j2 => ?_⟩ (by omega)
            rcases (show j < k ∨ j = k by omega) with w | w
            · exact hI.2 j j1 w
            · subst w
              unfold lkS
              dsimp only
              first
                | (rw [if_pos (by omega)]; done)
                | (rw [if_neg (by omega), hdk j (by omega) (by omega)]; omega)
          · refine tt_iconst X dX10_areAsTold_97 ?_
            refine tt_zret X ⟨hr.1, hr.2.1⟩ (by omega) (by decide) (by decide) dX10_areAsTold_98 ?_
            refine ⟨rfl, ?_, _, _, rfl⟩
            have hv : vlS (fun k => μ 68 k - 1) dl x = false := decide_eq_false (cntN_one (k := k) (by omega) (by omega) (by unfold lkS; dsimp only; rw [if_neg (by omega)]; omega))
            rw [hv]; rfl
    · have hsi := hset i (by omega) (by omega)
      have hNn := hG.2.1
      refine tt_iload_n X rfl dX10_areAsTold_31 ?_
      refine tt_iload_n X rfl dX10_areAsTold_32 ?_
      refine tt_ishr X dX10_areAsTold_33 ?_
      refine tt_iconst X dX10_areAsTold_34 ?_
      refine tt_iand X dX10_areAsTold_35 ?_
      refine tt_top (bt_test (by omega) (by omega)) ?_
      refine tt_iconst X dX10_areAsTold_36 ?_
      refine tt_icmp_ne X 57 (by split <;> omega) dX10_areAsTold_37 (by decide) (fun b37 => ?_) (fun b37 => ?_)
      · refine tt_iinc X dX10_areAsTold_57 rfl (by decide) ?_
        refine tt_goto X 23 dX10_areAsTold_60 (by decide) ?_
        refine tt_loc [(0, _), (1, _), (2, _)] ⟨rfl, rfl, rfl, trivial⟩ ?_
        first
          | (have w1 : bt x i = false := by
               cases w : bt x i
               · rfl
               · simp [w] at b37
             refine tt_mem (μ' := ot_uc (ot_uc μ 82 f) 83 (wr 64 (μ 83) (fun k => sumN (fun l => if bt x l then smp (μ 60 1) (μ 61) (μ 62) (μ 69 l) (μ 70 l) k else 0) (i + 1).toNat))) ?_ ?_
             · congr 1
               apply wr_congr
               intro k k1 k2
               rw [sumN_toNat _ hi.1]
               simp only [w1, Bool.false_eq_true, if_false]
               omega
             exact ihi (i + 1, f) (by show 0 ≤ i + 1 ∧ i + 1 ≤ μ 60 11; omega) (by show (μ 60 11 - (i + 1)).toNat < (μ 60 11 - i).toNat; omega))
          | (have w1 : bt x i = true := by
               cases w : bt x i
               · simp [w] at b37
               · rfl
             refine tt_mem (μ' := ot_uc (ot_uc μ 82 (wr 64 f (smp (μ 60 1) (μ 61) (μ 62) (μ 69 i) (μ 70 i)))) 83 (wr 64 (μ 83) (fun k => sumN (fun l => if bt x l then smp (μ 60 1) (μ 61) (μ 62) (μ 69 l) (μ 70 l) k else 0) (i + 1).toNat))) ?_ ?_
             · simp (disch := decide) only [ot_rd, ot_rs, ot_rf, ot_ucd, ot_ucs, ot_rdf]
               funext u
               by_cases u3 : u = 83
               · subst u3
                 simp (disch := decide) only [ot_rd, ot_rs, ot_rf, ot_ucd, ot_ucs, ot_rdf]
                 rw [wr_wr]
                 apply wr_congr
                 intro k k1 k2
                 rw [wr_in (by omega), sumN_toNat _ hi.1]
                 simp only [w1, if_true]
                 omega
               · by_cases u2 : u = 82 <;> simp [ot_uc, u2, u3]
             exact ihi (i + 1, _) (by show 0 ≤ i + 1 ∧ i + 1 ≤ μ 60 11; omega) (by show (μ 60 11 - (i + 1)).toNat < (μ 60 11 - i).toNat; omega))
      · refine tt_aload_n X rfl dX10_areAsTold_40 ?_
        refine tt_aload_n X rfl dX10_areAsTold_41 ?_
        refine tt_getr X fX10_38 (k_60 _ _) (by decide) ⟨nofun, nofun⟩ rfl dX10_areAsTold_42 ?_
        refine tt_iload_n X rfl dX10_areAsTold_45 ?_
        refine tt_iaload X (k_69 _ _) (by first | omega | (simp (disch := decide) only [ot_rd, ot_rs, ot_rf, ot_ucd, ot_ucs]; omega)) dX10_areAsTold_46 ?_
        try simp (disch := decide) only [ot_rd, ot_rs, ot_rf, ot_ucd, ot_ucs]
        refine tt_aload_n X rfl dX10_areAsTold_47 ?_
        refine tt_getr X fX10_41 (k_60 _ _) (by decide) ⟨nofun, nofun⟩ rfl dX10_areAsTold_48 ?_
        refine tt_iload_n X rfl dX10_areAsTold_51 ?_
        refine tt_iaload X (k_70 _ _) (by first | omega | (simp (disch := decide) only [ot_rd, ot_rs, ot_rf, ot_ucd, ot_ucs]; omega)) dX10_areAsTold_52 ?_
        try simp (disch := decide) only [ot_rd, ot_rs, ot_rf, ot_ucd, ot_ucs]
        refine tt_iconst X dX10_areAsTold_53 ?_
        refine tt_vv X rfl mX10_242 (q_darkens l g ln ext _ _ _ _ (by simp (disch := decide) only [ot_rd, ot_rs, ot_rf, ot_ucd, ot_ucs, ot_rdf]; exact hG) (by simp (disch := decide) only [ot_rd, ot_rs, ot_rf, ot_ucd, ot_ucs, ot_rdf]; omega) (by simp (disch := decide) only [ot_rd, ot_rs, ot_rf, ot_ucd, ot_ucs, ot_rdf]; omega) (by omega)) (k_60 _ _) ⟨_, rfl, rfl⟩ rfl rfl (Nat.le_of_ble_eq_true rfl) (by decide) (by decide) (by decide) dX10_areAsTold_54 (fun L54 μ54 hp => ?_)
        obtain ⟨rfl, rfl⟩ := hp
        refine tt_iinc X dX10_areAsTold_57 rfl (by decide) ?_
        refine tt_goto X 23 dX10_areAsTold_60 (by decide) ?_
        refine tt_loc [(0, _), (1, _), (2, _)] ⟨rfl, rfl, rfl, trivial⟩ ?_
        first
          | (have w1 : bt x i = false := by
               cases w : bt x i
               · rfl
               · simp [w] at b37
             refine tt_mem (μ' := ot_uc (ot_uc μ 82 f) 83 (wr 64 (μ 83) (fun k => sumN (fun l => if bt x l then smp (μ 60 1) (μ 61) (μ 62) (μ 69 l) (μ 70 l) k else 0) (i + 1).toNat))) ?_ ?_
             · congr 1
               apply wr_congr
               intro k k1 k2
               rw [sumN_toNat _ hi.1]
               simp only [w1, Bool.false_eq_true, if_false]
               omega
             exact ihi (i + 1, f) (by show 0 ≤ i + 1 ∧ i + 1 ≤ μ 60 11; omega) (by show (μ 60 11 - (i + 1)).toNat < (μ 60 11 - i).toNat; omega))
          | (have w1 : bt x i = true := by
               cases w : bt x i
               · simp [w] at b37
               · rfl
             refine tt_mem (μ' := ot_uc (ot_uc μ 82 (wr 64 f (smp (μ 60 1) (μ 61) (μ 62) (μ 69 i) (μ 70 i)))) 83 (wr 64 (μ 83) (fun k => sumN (fun l => if bt x l then smp (μ 60 1) (μ 61) (μ 62) (μ 69 l) (μ 70 l) k else 0) (i + 1).toNat))) ?_ ?_
             · simp (disch := decide) only [ot_rd, ot_rs, ot_rf, ot_ucd, ot_ucs, ot_rdf]
               funext u
               by_cases u3 : u = 83
               · subst u3
                 simp (disch := decide) only [ot_rd, ot_rs, ot_rf, ot_ucd, ot_ucs, ot_rdf]
                 rw [wr_wr]
                 apply wr_congr
                 intro k k1 k2
                 rw [wr_in (by omega), sumN_toNat _ hi.1]
                 simp only [w1, if_true]
                 omega
               · by_cases u2 : u = 82 <;> simp [ot_uc, u2, u3]
             exact ihi (i + 1, _) (by show 0 ≤ i + 1 ∧ i + 1 ≤ μ 60 11; omega) (by show (μ 60 11 - (i + 1)).toNat < (μ 60 11 - i).toNat; omega))
  · refine tt_aload_n X rfl dX10_areAsTold_8 ?_
    refine tt_getr X fX10_83 (k_60 _ _) (by decide) ⟨nofun, nofun⟩ rfl dX10_areAsTold_9 ?_
    refine tt_iload_n X rfl dX10_areAsTold_12 ?_
    refine tt_iconst X dX10_areAsTold_13 ?_
    refine tt_iastore X (k_83 _ _) (by first | omega | (simp (disch := decide) only [ot_rd, ot_rs, ot_rf, ot_ucd, ot_ucs]; omega)) dX10_areAsTold_14 ?_
    refine tt_iinc X dX10_areAsTold_15 rfl (by decide) ?_
    refine tt_goto X 2 dX10_areAsTold_18 (by decide) ?_
    refine tt_loc [(0, _), (1, _), (2, _)] ⟨rfl, rfl, rfl, trivial⟩ ?_
    refine tt_mem (μ' := ot_uc (ot_uc μ 82 (μ 82)) 83 (wr (c0 + 1) (μ 83) (fun _ => 0))) (by exact ot_uc_wr (by omega) rfl) ?_
    exact ih (c0 + 1) (by omega) (by omega)

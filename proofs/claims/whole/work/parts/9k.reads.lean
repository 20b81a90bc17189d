def rqM (μ : ot_M) (sp fr tk vl : Int) : ot_M := ot_up (ot_up (ot_up (ot_up μ 60 18 sp) 60 19 fr) 60 20 tk) 60 21 vl
theorem rqM_o {μ : ot_M} {sp fr tk vl : Int} {k : Nat} (h : k ≠ 60) : rqM μ sp fr tk vl k = μ k := by
  funext j
  simp [rqM, ot_up, h]
theorem rqM_f {μ : ot_M} {sp fr tk vl j : Int} (h : j ≠ 18 ∧ j ≠ 19 ∧ j ≠ 20 ∧ j ≠ 21) : rqM μ sp fr tk vl 60 j = μ 60 j := by
  simp [rqM, ot_up, h.1, h.2.1, h.2.2.1, h.2.2.2]
theorem rqM_18 {μ : ot_M} {sp fr tk vl : Int} : rqM μ sp fr tk vl 60 18 = sp := by simp [rqM, ot_up]
theorem rqM_19 {μ : ot_M} {sp fr tk vl : Int} : rqM μ sp fr tk vl 60 19 = fr := by simp [rqM, ot_up]
theorem rqM_20 {μ : ot_M} {sp fr tk vl : Int} : rqM μ sp fr tk vl 60 20 = tk := by simp [rqM, ot_up]
theorem rqM_21 {μ : ot_M} {sp fr tk vl : Int} : rqM μ sp fr tk vl 60 21 = vl := by simp [rqM, ot_up]
theorem rqM_ext {μ σ : ot_M} {sp fr tk vl : Int} (h : ∀ k, k ≠ 60 → σ k = μ k) (h1 : ∀ j, j ≠ 18 → j ≠ 19 → j ≠ 20 → j ≠ 21 → σ 60 j = μ 60 j) (a : σ 60 18 = sp) (b : σ 60 19 = fr) (c : σ 60 20 = tk) (d : σ 60 21 = vl) : σ = rqM μ sp fr tk vl := by
  funext k j
  by_cases w : k = 60
  · subst w
    by_cases w1 : j = 18
    · subst w1; rw [rqM_18, a]
    · by_cases w2 : j = 19
      · subst w2; rw [rqM_19, b]
      · by_cases w3 : j = 20
        · subst w3; rw [rqM_20, c]
        · by_cases w4 : j = 21
          · subst w4; rw [rqM_21, d]
          · rw [rqM_f ⟨w1, w2, w3, w4⟩, h1 j w1 w2 w3 w4]
  · rw [rqM_o w, h k w]
theorem rqM_rqM {μ : ot_M} {sp fr tk vl a b c d : Int} : rqM (rqM μ sp fr tk vl) a b c d = rqM μ a b c d := by
  refine rqM_ext (fun k h => by rw [rqM_o h, rqM_o h]) (fun j h1 h2 h3 h4 => by rw [rqM_f ⟨h1, h2, h3, h4⟩, rqM_f ⟨h1, h2, h3, h4⟩]) rqM_18 rqM_19 rqM_20 rqM_21
theorem ltq {v z : Int} (h : z = if (97 ≤ v ∧ v ≤ 122) ∨ (65 ≤ v ∧ v ≤ 90) then 1 else 0) (hz : z ≠ 0) : ltB v = true := by
  refine decide_eq_true ?_
  apply Classical.byContradiction
  intro w
  rw [if_neg w] at h
  exact hz h
theorem ltn {v z : Int} (h : z = if (97 ≤ v ∧ v ≤ 122) ∨ (65 ≤ v ∧ v ≤ 90) then 1 else 0) (hz : z = 0) : ltB v = false := by
  refine decide_eq_false ?_
  intro w
  rw [if_pos w] at h
  omega
theorem dgq {v z : Int} (h : z = if 48 ≤ v ∧ v ≤ 57 then 1 else 0) (hz : z ≠ 0) : dgB v = true := by
  refine decide_eq_true ?_
  apply Classical.byContradiction
  intro w
  rw [if_neg w] at h
  exact hz h
theorem dgn {v z : Int} (h : z = if 48 ≤ v ∧ v ≤ 57 then 1 else 0) (hz : z = 0) : dgB v = false := by
  refine decide_eq_false ?_
  intro w
  rw [if_pos w] at h
  omega
theorem mkq {v z : Int} (h : z = if v = 59 ∨ v = 43 ∨ v = 45 ∨ v = 42 ∨ v = 47 ∨ v = 40 ∨ v = 41 ∨ v = 60 ∨ v = 61 ∨ v = 62 then 1 else 0) (hz : z ≠ 0) : v = 59 ∨ v = 43 ∨ v = 45 ∨ v = 42 ∨ v = 47 ∨ v = 40 ∨ v = 41 ∨ v = 60 ∨ v = 61 ∨ v = 62 := by
  apply Classical.byContradiction
  intro w
  rw [if_neg w] at h
  exact hz h
theorem mkn {v z : Int} (h : z = if v = 59 ∨ v = 43 ∨ v = 45 ∨ v = 42 ∨ v = 47 ∨ v = 40 ∨ v = 41 ∨ v = 60 ∨ v = 61 ∨ v = 62 then 1 else 0) (hz : z = 0) (w : v = 59 ∨ v = 43 ∨ v = 45 ∨ v = 42 ∨ v = 47 ∨ v = 40 ∨ v = 41 ∨ v = 60 ∨ v = 61 ∨ v = 62) : False := by
  rw [if_pos w] at h
  omega
set_option maxRecDepth 100000 in
set_option maxHeartbeats 1000000 in
theorem q_reads (l : Launch) (g : ot_G) (ln : Nat) (ext : ot_L) (μ : ot_M) (s0 : Nat) (hs : μ 60 18 = (s0 : Int)) (T : Nat → Int) (n : Nat) (hT : ∀ k : Nat, k < n → μ 72 (k : Int) = T k) (hT2 : ∀ k, 0 ≤ T k ∧ T k ≤ 255) (hn : n ≤ 400) (hnt : μ 60 17 = (n : Int)) (hs0 : s0 ≤ n) (hwd : gWd (μ 73))  : ot_C l g yX10_reads cX10_reads 2 none 2 0 0 [.inr 60] (LL ln ext) μ (ot_pv (fun L2 μ2 => L2 = LL ln ext ∧ ∃ (sp : Nat) (tk vl : Int), μ2 = rqM μ (sp : Int) (skN T n s0 : Int) tk vl ∧ (sp = if skN T n s0 < n then enN T n (skN T n s0) else n) ∧ tqR T n (skN T n s0) tk vl ∧ (vl = μ 60 21 ∨ (-1 ≤ vl ∧ vl ≤ 99999)))) := by
  refine ot_enter (by decide) (Nat.le_of_ble_eq_true rfl) ?_
  intro p e s m args below meth c X hr
  refine tt_mem (μ' := ot_up μ 60 18 (s0 : Int)) (by rw [← hs]; funext k j; by_cases w1 : k = 60 <;> by_cases w2 : j = 18 <;> simp [ot_up, w1, w2]) ?_
  refine tt_loc [(0, _)] ⟨rfl, trivial⟩ ?_
  refine tt_loop (α := Nat) (fun i => n - i) (fun i => (s0 ≤ i ∧ i ≤ n) ∧ skN T n s0 = skN T n i) (fun i => ot_up μ 60 18 (i : Int)) (fun i => [(0, .inr 60)]) s0 ⟨⟨Nat.le_refl _, hs0⟩, rfl⟩ ?_
  intro i hI ih
  try dsimp only at hI ih ⊢
  have hi := hI.1
  refine tt_aload_n X rfl dX10_reads_0 ?_
  refine tt_aload_n X rfl dX10_reads_1 ?_
  refine tt_geti X fX10_135 (k_60 _ _) (by decide) (Or.inl rfl) dX10_reads_2 ?_
  try simp (disch := decide) only [ot_rd, ot_rs, ot_rf, ot_ucd, ot_ucs]
  refine tt_vi X rfl mX10_138 (q_raw l g ln ext _ (i : Int) (by omega) (by first | (simp (disch := decide) only [ot_ucd, ot_ucs, ot_rd, ot_rs, ot_rf, rqM_o, rqM_f, rqM_18, rqM_19, rqM_20, rqM_21]; omega) | (simp (disch := decide) only [ot_rd, ot_rs, ot_rf, ot_ucd, ot_ucs, ot_rdf]; omega) | omega)) (k_60 _ _) ⟨_, rfl, rfl⟩ rfl rfl (Nat.le_of_ble_eq_true rfl) (by decide) (by decide) (by decide) dX10_reads_5 (fun z5 L5 μ5 hp => ?_)
  obtain ⟨rfl, e5, hz5⟩ := hp
  replace e5 := e5.symm
  subst e5
  first | simp (disch := decide) only [ot_ucd, ot_ucs, ot_rd, ot_rs, ot_rf, rqM_o, rqM_f, rqM_18, rqM_19, rqM_20, rqM_21] at hz5 | skip
  replace hz5 := raw_eq hnt hT hz5
  refine tt_top hz5 ?_
  have hrr5 := rawN_rng (n := n) (i := i) hT2
  try simp (disch := decide) only [ot_rd, ot_rs, ot_rf, ot_ucd, ot_ucs] at hz5
  refine tt_bipush X (by decide) dX10_reads_8 ?_
  refine tt_icmp_eq X 26 (by first | omega | (simp (disch := decide) only [ot_rd, ot_rs, ot_rf, ot_ucd, ot_ucs, rqM_o, rqM_f, rqM_18, rqM_19, rqM_20, rqM_21]; omega)) dX10_reads_10 (by decide) (fun b10 => ?_) (fun b10 => ?_)
  · refine tt_aload_n X rfl dX10_reads_26 ?_
    refine tt_aload_n X rfl dX10_reads_27 ?_
    refine tt_geti X fX10_135 (k_60 _ _) (by decide) (Or.inl rfl) dX10_reads_28 ?_
    try simp (disch := decide) only [ot_rd, ot_rs, ot_rf, ot_ucd, ot_ucs, rqM_o, rqM_f, rqM_18, rqM_19, rqM_20, rqM_21]
    refine tt_iconst X dX10_reads_31 ?_
    refine tt_iadd X dX10_reads_32 ?_
    refine tt_puti X fX10_135 kc_10 (k_60 _ _) (by decide) (fun q hq => by cases hq; rfl) rfl dX10_reads_33 ?_
    refine tt_goto X 0 dX10_reads_36 (by decide) ?_
    refine tt_loc [(0, _)] ⟨rfl, trivial⟩ ?_
    have hin2 : i < n ∧ blB (T i) = true := by
      have q := rawN_in (n := n) (i := i) hT2 (by omega)
      exact ⟨q.1, decide_eq_true (by omega)⟩
    refine tt_mem (μ' := ot_up μ 60 18 ((i + 1 : Nat) : Int)) (by funext k j; by_cases w1 : k = 60 <;> by_cases w2 : j = 18 <;> simp [ot_up, w1, w2]) ?_
    exact ih (i + 1) ⟨by omega, by rw [hI.2]; exact rnN_step hin2.1 hin2.2⟩ (by omega)
  · refine tt_aload_n X rfl dX10_reads_13 ?_
    refine tt_aload_n X rfl dX10_reads_14 ?_
    refine tt_geti X fX10_135 (k_60 _ _) (by decide) (Or.inl rfl) dX10_reads_15 ?_
    try simp (disch := decide) only [ot_rd, ot_rs, ot_rf, ot_ucd, ot_ucs, rqM_o, rqM_f, rqM_18, rqM_19, rqM_20, rqM_21]
    refine tt_vi X rfl mX10_138 (q_raw l g ln ext _ (i : Int) (by omega) (by first | (simp (disch := decide) only [ot_ucd, ot_ucs, ot_rd, ot_rs, ot_rf, rqM_o, rqM_f, rqM_18, rqM_19, rqM_20, rqM_21]; omega) | (simp (disch := decide) only [ot_rd, ot_rs, ot_rf, ot_ucd, ot_ucs, ot_rdf]; omega) | omega)) (k_60 _ _) ⟨_, rfl, rfl⟩ rfl rfl (Nat.le_of_ble_eq_true rfl) (by decide) (by decide) (by decide) dX10_reads_18 (fun z18 L18 μ18 hp => ?_)
    obtain ⟨rfl, e18, hz18⟩ := hp
    replace e18 := e18.symm
    subst e18
    first | simp (disch := decide) only [ot_ucd, ot_ucs, ot_rd, ot_rs, ot_rf, rqM_o, rqM_f, rqM_18, rqM_19, rqM_20, rqM_21] at hz18 | skip
    replace hz18 := raw_eq hnt hT hz18
    refine tt_top hz18 ?_
    have hrr18 := rawN_rng (n := n) (i := i) hT2
    try simp (disch := decide) only [ot_rd, ot_rs, ot_rf, ot_ucd, ot_ucs, rqM_o, rqM_f, rqM_18, rqM_19, rqM_20, rqM_21] at hz18
    refine tt_bipush X (by decide) dX10_reads_21 ?_
    refine tt_icmp_ne X 39 (by first | omega | (simp (disch := decide) only [ot_rd, ot_rs, ot_rf, ot_ucd, ot_ucs, rqM_o, rqM_f, rqM_18, rqM_19, rqM_20, rqM_21]; omega)) dX10_reads_23 (by decide) (fun b23 => ?_) (fun b23 => ?_)
    · have hpe : skN T n s0 = i := by
        rw [hI.2]
        refine rnN_stop hi.2 ?_
        by_cases w : i = n
        · exact Or.inl w
        · right
          have q : rawN T n i = T i := by unfold rawN; rw [if_pos (by omega)]
          exact decide_eq_false (by omega)
      refine tt_aload_n X rfl dX10_reads_39 ?_
      refine tt_aload_n X rfl dX10_reads_40 ?_
      refine tt_geti X fX10_135 (k_60 _ _) (by decide) (Or.inl rfl) dX10_reads_41 ?_
      try simp (disch := decide) only [ot_rd, ot_rs, ot_rf, ot_ucd, ot_ucs, rqM_o, rqM_f, rqM_18, rqM_19, rqM_20, rqM_21]
      refine tt_puti X fX10_142 kc_10 (k_60 _ _) (by decide) (fun q hq => by cases hq; rfl) rfl dX10_reads_44 ?_
      refine tt_aload_n X rfl dX10_reads_47 ?_
      refine tt_iconst X dX10_reads_48 ?_
      refine tt_puti X fX10_145 kc_10 (k_60 _ _) (by decide) (fun q hq => by cases hq; rfl) rfl dX10_reads_49 ?_
      refine tt_aload_n X rfl dX10_reads_52 ?_
      refine tt_aload_n X rfl dX10_reads_53 ?_
      refine tt_geti X fX10_135 (k_60 _ _) (by decide) (Or.inl rfl) dX10_reads_54 ?_
      try simp (disch := decide) only [ot_rd, ot_rs, ot_rf, ot_ucd, ot_ucs, rqM_o, rqM_f, rqM_18, rqM_19, rqM_20, rqM_21]
      refine tt_vi X rfl mX10_138 (q_raw l g ln ext _ (i : Int) (by omega) (by first | (simp (disch := decide) only [ot_ucd, ot_ucs, ot_rd, ot_rs, ot_rf, rqM_o, rqM_f, rqM_18, rqM_19, rqM_20, rqM_21]; omega) | (simp (disch := decide) only [ot_rd, ot_rs, ot_rf, ot_ucd, ot_ucs, ot_rdf]; omega) | omega)) (k_60 _ _) ⟨_, rfl, rfl⟩ rfl rfl (Nat.le_of_ble_eq_true rfl) (by decide) (by decide) (by decide) dX10_reads_57 (fun z57 L57 μ57 hp => ?_)
      obtain ⟨rfl, e57, hz57⟩ := hp
      replace e57 := e57.symm
      subst e57
      first | simp (disch := decide) only [ot_ucd, ot_ucs, ot_rd, ot_rs, ot_rf, rqM_o, rqM_f, rqM_18, rqM_19, rqM_20, rqM_21] at hz57 | skip
      replace hz57 := raw_eq hnt hT hz57
      refine tt_top hz57 ?_
      have hrr57 := rawN_rng (n := n) (i := i) hT2
      try simp (disch := decide) only [ot_rd, ot_rs, ot_rf, ot_ucd, ot_ucs, rqM_o, rqM_f, rqM_18, rqM_19, rqM_20, rqM_21] at hz57
      refine tt_istore_n X dX10_reads_60 (by decide) ?_
      refine tt_iload_n X rfl dX10_reads_61 ?_
      refine tt_iconst X dX10_reads_62 ?_
      refine tt_icmp_ne X 72 (by first | omega | (simp (disch := decide) only [ot_rd, ot_rs, ot_rf, ot_ucd, ot_ucs, rqM_o, rqM_f, rqM_18, rqM_19, rqM_20, rqM_21]; omega)) dX10_reads_63 (by decide) (fun b63 => ?_) (fun b63 => ?_)
      · have hin2 := rawN_in (n := n) (i := i) hT2 (by omega)
        have hTi := hT2 i
        refine tt_aload_n X rfl dX10_reads_72 ?_
        refine tt_aload_n X rfl dX10_reads_73 ?_
        refine tt_geti X fX10_135 (k_60 _ _) (by decide) (Or.inl rfl) dX10_reads_74 ?_
        try simp (disch := decide) only [ot_rd, ot_rs, ot_rf, ot_ucd, ot_ucs, rqM_o, rqM_f, rqM_18, rqM_19, rqM_20, rqM_21]
        refine tt_iconst X dX10_reads_77 ?_
        refine tt_iadd X dX10_reads_78 ?_
        refine tt_puti X fX10_135 kc_10 (k_60 _ _) (by decide) (fun q hq => by cases hq; rfl) rfl dX10_reads_79 ?_
        refine tt_aload_n X rfl dX10_reads_82 ?_
        
        refine tt_iload_n X rfl dX10_reads_83 ?_
        refine tt_puti X fX10_148 kc_10 (k_60 _ _) (by decide) (fun q hq => by cases hq; rfl) rfl dX10_reads_84 ?_
        refine tt_loc [(0, .inr 60), (1, .inl (T i))] ⟨rfl, by show some _ = some _; rw [hin2.2], trivial⟩ ?_
        refine tt_mem (μ' := rqM μ ((i + 1 : Nat) : Int) (i : Int) 1 (T i)) (by rw [hin2.2]; exact rqM_ext (fun k h => by funext j; simp [rqM, ot_up, h]) (fun j h1 h2 h3 h4 => by simp [rqM, ot_up, h1, h2, h3, h4]) (by simp [rqM, ot_up]) (by simp [rqM, ot_up]) (by simp [rqM, ot_up]) (by simp [rqM, ot_up])) ?_
        refine tt_aload_n X rfl dX10_reads_87 ?_
        refine tt_iload_n X rfl dX10_reads_88 ?_
        refine tt_vi X rfl mX10_151 (q_isLetter l g ln ext _ (T i) (by omega)) (k_60 _ _) ⟨_, rfl, rfl⟩ rfl rfl (Nat.le_of_ble_eq_true rfl) (by decide) (by decide) (by decide) dX10_reads_89 (fun z89 L89 μ89 hp => ?_)
        obtain ⟨rfl, e89, hz89⟩ := hp
        replace e89 := e89.symm
        subst e89
        try simp (disch := decide) only [ot_rd, ot_rs, ot_rf, ot_ucd, ot_ucs, rqM_o, rqM_f, rqM_18, rqM_19, rqM_20, rqM_21] at hz89
        refine tt_if_eq X 155 (by rw [hz89]; split <;> omega) dX10_reads_92 (by decide) (fun b92 => ?_) (fun b92 => ?_)
        · refine tt_aload_n X rfl dX10_reads_155 ?_
          refine tt_iload_n X rfl dX10_reads_156 ?_
          refine tt_vi X rfl mX10_158 (q_isDigit l g ln ext _ (T i) (by omega)) (k_60 _ _) ⟨_, rfl, rfl⟩ rfl rfl (Nat.le_of_ble_eq_true rfl) (by decide) (by decide) (by decide) dX10_reads_157 (fun z157 L157 μ157 hp => ?_)
          obtain ⟨rfl, e157, hz157⟩ := hp
          replace e157 := e157.symm
          subst e157
          try simp (disch := decide) only [ot_rd, ot_rs, ot_rf, ot_ucd, ot_ucs, rqM_o, rqM_f, rqM_18, rqM_19, rqM_20, rqM_21] at hz157
          refine tt_if_eq X 260 (by rw [hz157]; split <;> omega) dX10_reads_160 (by decide) (fun b160 => ?_) (fun b160 => ?_)
          · have hlt : ltB (T i) = false := ltn hz89 (by omega)
            have hdg : dgB (T i) = false := dgn hz157 (by omega)
            have hen := en_sg (n := n) hlt hdg
            have htk := tk_sg (n := n) hin2.1 hlt hdg
            refine tt_aload_n X rfl dX10_reads_260 ?_
            refine tt_iload_n X rfl dX10_reads_261 ?_
            refine tt_vi X rfl mX10_161 (q_isMarkSign l g ln ext _ (T i) (by omega)) (k_60 _ _) ⟨_, rfl, rfl⟩ rfl rfl (Nat.le_of_ble_eq_true rfl) (by decide) (by decide) (by decide) dX10_reads_262 (fun z262 L262 μ262 hp => ?_)
            obtain ⟨rfl, e262, hz262⟩ := hp
            replace e262 := e262.symm
            subst e262
            try simp (disch := decide) only [ot_rd, ot_rs, ot_rf, ot_ucd, ot_ucs, rqM_o, rqM_f, rqM_18, rqM_19, rqM_20, rqM_21] at hz262
            refine tt_if_eq X 273 (by rw [hz262]; split <;> omega) dX10_reads_265 (by decide) (fun b265 => ?_) (fun b265 => ?_)
            · refine tt_vret X ⟨hr.1, hr.2.1⟩ (by decide) (by decide) dX10_reads_273 ?_
              first
                | (have hk14 : kwN T i t < 14 := by
                     apply Classical.byContradiction
                     intro w
                     rw [if_neg w] at hz133
                     omega
                   rw [if_pos hk14] at hz133 htk
                   refine ⟨rfl, t, 2, z133, ?_, ?_, ?_, Or.inr (by omega)⟩
                   · first | (rw [hpe]; exact rqM_ext (fun k h => by funext j; simp [rqM, ot_up, h]) (fun j h1 h2 h3 h4 => by simp [rqM, ot_up, h1, h2, h3, h4]) (by simp [rqM, ot_up]) (by simp [rqM, ot_up]) (by simp [rqM, ot_up]) (by simp [rqM, ot_up])) | rw [hpe]
                   · rw [hpe, if_pos hin2.1, hen]
                   · rw [hpe]
                     exact Or.inr (Or.inr (Or.inl ⟨by omega, rfl, by omega⟩)))
                | (have hk14 : ¬ kwN T i t < 14 := by
                     intro w
                     rw [if_pos w] at hz133
                     omega
                   rw [if_neg hk14] at hz133 htk
                   refine ⟨rfl, t, 1, z133, ?_, ?_, ?_, Or.inr (by omega)⟩
                   · first | (rw [hpe]; exact rqM_ext (fun k h => by funext j; simp [rqM, ot_up, h]) (fun j h1 h2 h3 h4 => by simp [rqM, ot_up, h1, h2, h3, h4]) (by simp [rqM, ot_up]) (by simp [rqM, ot_up]) (by simp [rqM, ot_up]) (by simp [rqM, ot_up])) | rw [hpe]
                   · rw [hpe, if_pos hin2.1, hen]
                   · rw [hpe]
                     exact Or.inr (Or.inl ⟨htk, rfl⟩))
                | (rw [if_pos (by omega)] at htk
                   have hve : v = vlN T n i := by unfold vlN; rw [hen, Nat.min_eq_left (by omega)]; exact hI3.2.2.1 (by omega)
                   have hv4 : v ≤ 9999 := by
                     have q2 := dvN_rng (T := T) (a := i) (t - i) (by omega) (fun u hu => by
                       by_cases e1 : u = 0
                       · rw [e1, Nat.add_zero]; exact hdi
                       · exact of_decide_eq_true (hI3.2.1 (i + u) (by omega) (by omega)))
                     have q1 := hI3.2.2.1 (by omega)
                     have q3 : (10 ^ (t - i) : Nat) ≤ 10 ^ 4 := Nat.pow_le_pow_right (by decide) (by omega)
                     omega
                   refine ⟨rfl, t, 3, v, ?_, ?_, ?_, Or.inr (by omega)⟩
                   · first | (rw [hpe]; exact rqM_ext (fun k h => by funext j; simp [rqM, ot_up, h]) (fun j h1 h2 h3 h4 => by simp [rqM, ot_up, h1, h2, h3, h4]) (by simp [rqM, ot_up]) (by simp [rqM, ot_up]) (by simp [rqM, ot_up]) (by simp [rqM, ot_up])) | rw [hpe]
                   · rw [hpe, if_pos hin2.1, hen]
                   · rw [hpe]
                     exact Or.inr (Or.inr (Or.inr (Or.inl ⟨htk, rfl, hve, by omega, hv4⟩))))
                | (rw [if_neg (by omega)] at htk
                   refine ⟨rfl, t, 1, v, ?_, ?_, ?_, Or.inr (by omega)⟩
                   · first | (rw [hpe]; exact rqM_ext (fun k h => by funext j; simp [rqM, ot_up, h]) (fun j h1 h2 h3 h4 => by simp [rqM, ot_up, h1, h2, h3, h4]) (by simp [rqM, ot_up]) (by simp [rqM, ot_up]) (by simp [rqM, ot_up]) (by simp [rqM, ot_up])) | rw [hpe]
                   · rw [hpe, if_pos hin2.1, hen]
                   · rw [hpe]
                     exact Or.inr (Or.inl ⟨htk, rfl⟩))
                | (have hsg : sgL.contains (T i) = true := sg_list.mpr (mkq hz262 (by omega))
                   have hsl := sg_list.mp hsg
                   rw [if_pos hsg] at htk
                   refine ⟨rfl, i + 1, 4, T i, ?_, ?_, ?_, Or.inr (by omega)⟩
                   · first | (rw [hpe]; exact rqM_ext (fun k h => by funext j; simp [rqM, ot_up, h]) (fun j h1 h2 h3 h4 => by simp [rqM, ot_up, h1, h2, h3, h4]) (by simp [rqM, ot_up]) (by simp [rqM, ot_up]) (by simp [rqM, ot_up]) (by simp [rqM, ot_up])) | rw [hpe]
                   · rw [hpe, if_pos hin2.1, hen]
                   · rw [hpe]
                     exact Or.inr (Or.inr (Or.inr (Or.inr ⟨by rw [htk]; omega, by rw [htk]; omega, rfl, htk.symm⟩))))
                | (have hsg : ¬ sgL.contains (T i) = true := fun q => mkn hz262 (by omega) (sg_list.mp q)
                   rw [if_neg hsg] at htk
                   refine ⟨rfl, i + 1, 1, T i, ?_, ?_, ?_, Or.inr (by omega)⟩
                   · first | (rw [hpe]; exact rqM_ext (fun k h => by funext j; simp [rqM, ot_up, h]) (fun j h1 h2 h3 h4 => by simp [rqM, ot_up, h1, h2, h3, h4]) (by simp [rqM, ot_up]) (by simp [rqM, ot_up]) (by simp [rqM, ot_up]) (by simp [rqM, ot_up])) | rw [hpe]
                   · rw [hpe, if_pos hin2.1, hen]
                   · rw [hpe]
                     exact Or.inr (Or.inl ⟨htk, rfl⟩))
            · refine tt_aload_n X rfl dX10_reads_268 ?_
              refine tt_iconst X dX10_reads_269 ?_
              refine tt_puti X fX10_145 kc_10 (k_60 _ _) (by decide) (fun q hq => by cases hq; rfl) rfl dX10_reads_270 ?_
              refine tt_vret X ⟨hr.1, hr.2.1⟩ (by decide) (by decide) dX10_reads_273 ?_
              first
                | (have hk14 : kwN T i t < 14 := by
                     apply Classical.byContradiction
                     intro w
                     rw [if_neg w] at hz133
                     omega
                   rw [if_pos hk14] at hz133 htk
                   refine ⟨rfl, t, 2, z133, ?_, ?_, ?_, Or.inr (by omega)⟩
                   · first | (rw [hpe]; exact rqM_ext (fun k h => by funext j; simp [rqM, ot_up, h]) (fun j h1 h2 h3 h4 => by simp [rqM, ot_up, h1, h2, h3, h4]) (by simp [rqM, ot_up]) (by simp [rqM, ot_up]) (by simp [rqM, ot_up]) (by simp [rqM, ot_up])) | rw [hpe]
                   · rw [hpe, if_pos hin2.1, hen]
                   · rw [hpe]
                     exact Or.inr (Or.inr (Or.inl ⟨by omega, rfl, by omega⟩)))
                | (have hk14 : ¬ kwN T i t < 14 := by
                     intro w
                     rw [if_pos w] at hz133
                     omega
                   rw [if_neg hk14] at hz133 htk
                   refine ⟨rfl, t, 1, z133, ?_, ?_, ?_, Or.inr (by omega)⟩
                   · first | (rw [hpe]; exact rqM_ext (fun k h => by funext j; simp [rqM, ot_up, h]) (fun j h1 h2 h3 h4 => by simp [rqM, ot_up, h1, h2, h3, h4]) (by simp [rqM, ot_up]) (by simp [rqM, ot_up]) (by simp [rqM, ot_up]) (by simp [rqM, ot_up])) | rw [hpe]
                   · rw [hpe, if_pos hin2.1, hen]
                   · rw [hpe]
                     exact Or.inr (Or.inl ⟨htk, rfl⟩))
                | (rw [if_pos (by omega)] at htk
                   have hve : v = vlN T n i := by unfold vlN; rw [hen, Nat.min_eq_left (by omega)]; exact hI3.2.2.1 (by omega)
                   have hv4 : v ≤ 9999 := by
                     have q2 := dvN_rng (T := T) (a := i) (t - i) (by omega) (fun u hu => by
                       by_cases e1 : u = 0
                       · rw [e1, Nat.add_zero]; exact hdi
                       · exact of_decide_eq_true (hI3.2.1 (i + u) (by omega) (by omega)))
                     have q1 := hI3.2.2.1 (by omega)
                     have q3 : (10 ^ (t - i) : Nat) ≤ 10 ^ 4 := Nat.pow_le_pow_right (by decide) (by omega)
                     omega
                   refine ⟨rfl, t, 3, v, ?_, ?_, ?_, Or.inr (by omega)⟩
                   · first | (rw [hpe]; exact rqM_ext (fun k h => by funext j; simp [rqM, ot_up, h]) (fun j h1 h2 h3 h4 => by simp [rqM, ot_up, h1, h2, h3, h4]) (by simp [rqM, ot_up]) (by simp [rqM, ot_up]) (by simp [rqM, ot_up]) (by simp [rqM, ot_up])) | rw [hpe]
                   · rw [hpe, if_pos hin2.1, hen]
                   · rw [hpe]
                     exact Or.inr (Or.inr (Or.inr (Or.inl ⟨htk, rfl, hve, by omega, hv4⟩))))
                | (rw [if_neg (by omega)] at htk
                   refine ⟨rfl, t, 1, v, ?_, ?_, ?_, Or.inr (by omega)⟩
                   · first | (rw [hpe]; exact rqM_ext (fun k h => by funext j; simp [rqM, ot_up, h]) (fun j h1 h2 h3 h4 => by simp [rqM, ot_up, h1, h2, h3, h4]) (by simp [rqM, ot_up]) (by simp [rqM, ot_up]) (by simp [rqM, ot_up]) (by simp [rqM, ot_up])) | rw [hpe]
                   · rw [hpe, if_pos hin2.1, hen]
                   · rw [hpe]
                     exact Or.inr (Or.inl ⟨htk, rfl⟩))
                | (have hsg : sgL.contains (T i) = true := sg_list.mpr (mkq hz262 (by omega))
                   have hsl := sg_list.mp hsg
                   rw [if_pos hsg] at htk
                   refine ⟨rfl, i + 1, 4, T i, ?_, ?_, ?_, Or.inr (by omega)⟩
                   · first | (rw [hpe]; exact rqM_ext (fun k h => by funext j; simp [rqM, ot_up, h]) (fun j h1 h2 h3 h4 => by simp [rqM, ot_up, h1, h2, h3, h4]) (by simp [rqM, ot_up]) (by simp [rqM, ot_up]) (by simp [rqM, ot_up]) (by simp [rqM, ot_up])) | rw [hpe]
                   · rw [hpe, if_pos hin2.1, hen]
                   · rw [hpe]
                     exact Or.inr (Or.inr (Or.inr (Or.inr ⟨by rw [htk]; omega, by rw [htk]; omega, rfl, htk.symm⟩))))
                | (have hsg : ¬ sgL.contains (T i) = true := fun q => mkn hz262 (by omega) (sg_list.mp q)
                   rw [if_neg hsg] at htk
                   refine ⟨rfl, i + 1, 1, T i, ?_, ?_, ?_, Or.inr (by omega)⟩
                   · first | (rw [hpe]; exact rqM_ext (fun k h => by funext j; simp [rqM, ot_up, h]) (fun j h1 h2 h3 h4 => by simp [rqM, ot_up, h1, h2, h3, h4]) (by simp [rqM, ot_up]) (by simp [rqM, ot_up]) (by simp [rqM, ot_up]) (by simp [rqM, ot_up])) | rw [hpe]
                   · rw [hpe, if_pos hin2.1, hen]
                   · rw [hpe]
                     exact Or.inr (Or.inl ⟨htk, rfl⟩))
          · have hlt : ltB (T i) = false := ltn hz89 (by omega)
            have hdg : dgB (T i) = true := dgq hz157 (by omega)
            have hdi := of_decide_eq_true hdg
            refine tt_aload_n X rfl dX10_reads_163 ?_
            refine tt_iload_n X rfl dX10_reads_164 ?_
            refine tt_bipush X (by decide) dX10_reads_165 ?_
            refine tt_isub X dX10_reads_167 ?_
            refine tt_puti X fX10_148 kc_10 (k_60 _ _) (by decide) (fun q hq => by cases hq; rfl) rfl dX10_reads_168 ?_
            refine tt_mem (μ' := rqM μ ((i + 1 : Nat) : Int) (i : Int) 1 (T i - 48)) (rqM_ext (fun k h => by funext j; simp [rqM, ot_up, h]) (fun j h1 h2 h3 h4 => by simp [rqM, ot_up, h1, h2, h3, h4]) (by simp [rqM, ot_up]) (by simp [rqM, ot_up]) (by simp [rqM, ot_up]) (by simp [rqM, ot_up])) ?_
            refine tt_loc [(0, _), (1, _)] ⟨rfl, rfl, trivial⟩ ?_
            refine tt_loop (α := Nat × Int) (fun ((t, v)) => n - t) (fun ((t, v)) => (i + 1 ≤ t ∧ t ≤ n) ∧ (∀ u, i + 1 ≤ u → u < t → dgB (T u) = true) ∧ (t - i ≤ 4 → v = dvN T i (t - i)) ∧ (0 ≤ v ∧ v ≤ 99999)) (fun ((t, v)) => rqM μ (t : Int) (i : Int) 1 v) (fun ((t, v)) => [(0, .inr 60), (1, .inl (T i))]) (i + 1, T i - 48) ⟨by show i + 1 ≤ i + 1 ∧ i + 1 ≤ n; omega, fun u h1 h2 => by omega, fun _ => by show T i - 48 = dvN T i (i + 1 - i); rw [show i + 1 - i = 1 by omega]; show T i - 48 = 0 * 10 + T (i + 0) - 48; rw [Nat.add_zero]; omega, by show 0 ≤ T i - 48 ∧ T i - 48 ≤ 99999; omega⟩ ?_
            intro a hI3 ih3
            obtain ⟨t, v⟩ := a
            try dsimp only at hI3 ih3 ⊢
            replace hI3 : (i + 1 ≤ t ∧ t ≤ n) ∧ (∀ u, i + 1 ≤ u → u < t → dgB (T u) = true) ∧ (t - i ≤ 4 → v = dvN T i (t - i)) ∧ (0 ≤ v ∧ v ≤ 99999) := hI3
            have ht := hI3.1
            have hv3 := hI3.2.2.2
            refine tt_aload_n X rfl dX10_reads_171 ?_
            refine tt_aload_n X rfl dX10_reads_172 ?_
            refine tt_aload_n X rfl dX10_reads_173 ?_
            refine tt_geti X fX10_135 (k_60 _ _) (by decide) (Or.inl rfl) dX10_reads_174 ?_
            try simp (disch := decide) only [ot_rd, ot_rs, ot_rf, ot_ucd, ot_ucs, rqM_o, rqM_f, rqM_18, rqM_19, rqM_20, rqM_21]
            refine tt_vi X rfl mX10_138 (q_raw l g ln ext _ (t : Int) (by omega) (by first | (simp (disch := decide) only [ot_ucd, ot_ucs, ot_rd, ot_rs, ot_rf, rqM_o, rqM_f, rqM_18, rqM_19, rqM_20, rqM_21]; omega) | (simp (disch := decide) only [ot_rd, ot_rs, ot_rf, ot_ucd, ot_ucs, ot_rdf]; omega) | omega)) (k_60 _ _) ⟨_, rfl, rfl⟩ rfl rfl (Nat.le_of_ble_eq_true rfl) (by decide) (by decide) (by decide) dX10_reads_177 (fun z177 L177 μ177 hp => ?_)
            obtain ⟨rfl, e177, hz177⟩ := hp
            replace e177 := e177.symm
            subst e177
            first | simp (disch := decide) only [ot_ucd, ot_ucs, ot_rd, ot_rs, ot_rf, rqM_o, rqM_f, rqM_18, rqM_19, rqM_20, rqM_21] at hz177 | skip
            replace hz177 := raw_eq hnt hT hz177
            refine tt_top hz177 ?_
            have hrr177 := rawN_rng (n := n) (i := t) hT2
            try simp (disch := decide) only [ot_rd, ot_rs, ot_rf, ot_ucd, ot_ucs, rqM_o, rqM_f, rqM_18, rqM_19, rqM_20, rqM_21] at hz177
            refine tt_vi X rfl mX10_158 (q_isDigit l g ln ext _ (rawN T n t) (by omega)) (k_60 _ _) ⟨_, rfl, rfl⟩ rfl rfl (Nat.le_of_ble_eq_true rfl) (by decide) (by decide) (by decide) dX10_reads_180 (fun z180 L180 μ180 hp => ?_)
            obtain ⟨rfl, e180, hz180⟩ := hp
            replace e180 := e180.symm
            subst e180
            try simp (disch := decide) only [ot_rd, ot_rs, ot_rf, ot_ucd, ot_ucs, rqM_o, rqM_f, rqM_18, rqM_19, rqM_20, rqM_21] at hz180
            refine tt_if_eq X 239 (by rw [hz180]; split <;> omega) dX10_reads_183 (by decide) (fun b183 => ?_) (fun b183 => ?_)
            · have hen : enN T n i = t := by
                refine en_dg hlt hdg ht hI3.2.1 ?_
                by_cases w : t = n
                · exact Or.inl w
                · right
                  have q := dgn hz180 (by omega)
                  unfold rawN at q
                  rw [if_pos (by omega)] at q
                  exact q
              have htk := tk_dg (n := n) hin2.1 hlt hdg hen
              refine tt_aload_n X rfl dX10_reads_239 ?_
              refine tt_geti X fX10_135 (k_60 _ _) (by decide) (Or.inl rfl) dX10_reads_240 ?_
              try simp (disch := decide) only [ot_rd, ot_rs, ot_rf, ot_ucd, ot_ucs, rqM_o, rqM_f, rqM_18, rqM_19, rqM_20, rqM_21]
              refine tt_aload_n X rfl dX10_reads_243 ?_
              refine tt_geti X fX10_142 (k_60 _ _) (by decide) (Or.inl rfl) dX10_reads_244 ?_
              try simp (disch := decide) only [ot_rd, ot_rs, ot_rf, ot_ucd, ot_ucs, rqM_o, rqM_f, rqM_18, rqM_19, rqM_20, rqM_21]
              refine tt_isub X dX10_reads_247 ?_
              refine tt_iconst X dX10_reads_248 ?_
              refine tt_icmp_ge X 273 (by first | omega | (simp (disch := decide) only [ot_rd, ot_rs, ot_rf, ot_ucd, ot_ucs, rqM_o, rqM_f, rqM_18, rqM_19, rqM_20, rqM_21]; omega)) dX10_reads_249 (by decide) (fun b249 => ?_) (fun b249 => ?_)
              · refine tt_vret X ⟨hr.1, hr.2.1⟩ (by decide) (by decide) dX10_reads_273 ?_
                first
                  | (have hk14 : kwN T i t < 14 := by
                       apply Classical.byContradiction
                       intro w
                       rw [if_neg w] at hz133
                       omega
                     rw [if_pos hk14] at hz133 htk
                     refine ⟨rfl, t, 2, z133, ?_, ?_, ?_, Or.inr (by omega)⟩
                     · first | (rw [hpe]; exact rqM_ext (fun k h => by funext j; simp [rqM, ot_up, h]) (fun j h1 h2 h3 h4 => by simp [rqM, ot_up, h1, h2, h3, h4]) (by simp [rqM, ot_up]) (by simp [rqM, ot_up]) (by simp [rqM, ot_up]) (by simp [rqM, ot_up])) | rw [hpe]
                     · rw [hpe, if_pos hin2.1, hen]
                     · rw [hpe]
                       exact Or.inr (Or.inr (Or.inl ⟨by omega, rfl, by omega⟩)))
                  | (have hk14 : ¬ kwN T i t < 14 := by
                       intro w
                       rw [if_pos w] at hz133
                       omega
                     rw [if_neg hk14] at hz133 htk
                     refine ⟨rfl, t, 1, z133, ?_, ?_, ?_, Or.inr (by omega)⟩
                     · first | (rw [hpe]; exact rqM_ext (fun k h => by funext j; simp [rqM, ot_up, h]) (fun j h1 h2 h3 h4 => by simp [rqM, ot_up, h1, h2, h3, h4]) (by simp [rqM, ot_up]) (by simp [rqM, ot_up]) (by simp [rqM, ot_up]) (by simp [rqM, ot_up])) | rw [hpe]
                     · rw [hpe, if_pos hin2.1, hen]
                     · rw [hpe]
                       exact Or.inr (Or.inl ⟨htk, rfl⟩))
                  | (rw [if_pos (by omega)] at htk
                     have hve : v = vlN T n i := by unfold vlN; rw [hen, Nat.min_eq_left (by omega)]; exact hI3.2.2.1 (by omega)
                     have hv4 : v ≤ 9999 := by
                       have q2 := dvN_rng (T := T) (a := i) (t - i) (by omega) (fun u hu => by
                         by_cases e1 : u = 0
                         · rw [e1, Nat.add_zero]; exact hdi
                         · exact of_decide_eq_true (hI3.2.1 (i + u) (by omega) (by omega)))
                       have q1 := hI3.2.2.1 (by omega)
                       have q3 : (10 ^ (t - i) : Nat) ≤ 10 ^ 4 := Nat.pow_le_pow_right (by decide) (by omega)
                       omega
                     refine ⟨rfl, t, 3, v, ?_, ?_, ?_, Or.inr (by omega)⟩
                     · first | (rw [hpe]; exact rqM_ext (fun k h => by funext j; simp [rqM, ot_up, h]) (fun j h1 h2 h3 h4 => by simp [rqM, ot_up, h1, h2, h3, h4]) (by simp [rqM, ot_up]) (by simp [rqM, ot_up]) (by simp [rqM, ot_up]) (by simp [rqM, ot_up])) | rw [hpe]
                     · rw [hpe, if_pos hin2.1, hen]
                     · rw [hpe]
                       exact Or.inr (Or.inr (Or.inr (Or.inl ⟨htk, rfl, hve, by omega, hv4⟩))))
                  | (rw [if_neg (by omega)] at htk
                     refine ⟨rfl, t, 1, v, ?_, ?_, ?_, Or.inr (by omega)⟩
                     · first | (rw [hpe]; exact rqM_ext (fun k h => by funext j; simp [rqM, ot_up, h]) (fun j h1 h2 h3 h4 => by simp [rqM, ot_up, h1, h2, h3, h4]) (by simp [rqM, ot_up]) (by simp [rqM, ot_up]) (by simp [rqM, ot_up]) (by simp [rqM, ot_up])) | rw [hpe]
                     · rw [hpe, if_pos hin2.1, hen]
                     · rw [hpe]
                       exact Or.inr (Or.inl ⟨htk, rfl⟩))
                  | (have hsg : sgL.contains (T i) = true := sg_list.mpr (mkq hz262 (by omega))
                     have hsl := sg_list.mp hsg
                     rw [if_pos hsg] at htk
                     refine ⟨rfl, i + 1, 4, T i, ?_, ?_, ?_, Or.inr (by omega)⟩
                     · first | (rw [hpe]; exact rqM_ext (fun k h => by funext j; simp [rqM, ot_up, h]) (fun j h1 h2 h3 h4 => by simp [rqM, ot_up, h1, h2, h3, h4]) (by simp [rqM, ot_up]) (by simp [rqM, ot_up]) (by simp [rqM, ot_up]) (by simp [rqM, ot_up])) | rw [hpe]
                     · rw [hpe, if_pos hin2.1, hen]
                     · rw [hpe]
                       exact Or.inr (Or.inr (Or.inr (Or.inr ⟨by rw [htk]; omega, by rw [htk]; omega, rfl, htk.symm⟩))))
                  | (have hsg : ¬ sgL.contains (T i) = true := fun q => mkn hz262 (by omega) (sg_list.mp q)
                     rw [if_neg hsg] at htk
                     refine ⟨rfl, i + 1, 1, T i, ?_, ?_, ?_, Or.inr (by omega)⟩
                     · first | (rw [hpe]; exact rqM_ext (fun k h => by funext j; simp [rqM, ot_up, h]) (fun j h1 h2 h3 h4 => by simp [rqM, ot_up, h1, h2, h3, h4]) (by simp [rqM, ot_up]) (by simp [rqM, ot_up]) (by simp [rqM, ot_up]) (by simp [rqM, ot_up])) | rw [hpe]
                     · rw [hpe, if_pos hin2.1, hen]
                     · rw [hpe]
                       exact Or.inr (Or.inl ⟨htk, rfl⟩))
              · refine tt_aload_n X rfl dX10_reads_252 ?_
                refine tt_iconst X dX10_reads_253 ?_
                refine tt_puti X fX10_145 kc_10 (k_60 _ _) (by decide) (fun q hq => by cases hq; rfl) rfl dX10_reads_254 ?_
                refine tt_goto X 273 dX10_reads_257 (by decide) ?_
                refine tt_vret X ⟨hr.1, hr.2.1⟩ (by decide) (by decide) dX10_reads_273 ?_
                first
                  | (have hk14 : kwN T i t < 14 := by
                       apply Classical.byContradiction
                       intro w
                       rw [if_neg w] at hz133
                       omega
                     rw [if_pos hk14] at hz133 htk
                     refine ⟨rfl, t, 2, z133, ?_, ?_, ?_, Or.inr (by omega)⟩
                     · first | (rw [hpe]; exact rqM_ext (fun k h => by funext j; simp [rqM, ot_up, h]) (fun j h1 h2 h3 h4 => by simp [rqM, ot_up, h1, h2, h3, h4]) (by simp [rqM, ot_up]) (by simp [rqM, ot_up]) (by simp [rqM, ot_up]) (by simp [rqM, ot_up])) | rw [hpe]
                     · rw [hpe, if_pos hin2.1, hen]
                     · rw [hpe]
                       exact Or.inr (Or.inr (Or.inl ⟨by omega, rfl, by omega⟩)))
                  | (have hk14 : ¬ kwN T i t < 14 := by
                       intro w
                       rw [if_pos w] at hz133
                       omega
                     rw [if_neg hk14] at hz133 htk
                     refine ⟨rfl, t, 1, z133, ?_, ?_, ?_, Or.inr (by omega)⟩
                     · first | (rw [hpe]; exact rqM_ext (fun k h => by funext j; simp [rqM, ot_up, h]) (fun j h1 h2 h3 h4 => by simp [rqM, ot_up, h1, h2, h3, h4]) (by simp [rqM, ot_up]) (by simp [rqM, ot_up]) (by simp [rqM, ot_up]) (by simp [rqM, ot_up])) | rw [hpe]
                     · rw [hpe, if_pos hin2.1, hen]
                     · rw [hpe]
                       exact Or.inr (Or.inl ⟨htk, rfl⟩))
                  | (rw [if_pos (by omega)] at htk
                     have hve : v = vlN T n i := by unfold vlN; rw [hen, Nat.min_eq_left (by omega)]; exact hI3.2.2.1 (by omega)
                     have hv4 : v ≤ 9999 := by
                       have q2 := dvN_rng (T := T) (a := i) (t - i) (by omega) (fun u hu => by
                         by_cases e1 : u = 0
                         · rw [e1, Nat.add_zero]; exact hdi
                         · exact of_decide_eq_true (hI3.2.1 (i + u) (by omega) (by omega)))
                       have q1 := hI3.2.2.1 (by omega)
                       have q3 : (10 ^ (t - i) : Nat) ≤ 10 ^ 4 := Nat.pow_le_pow_right (by decide) (by omega)
                       omega
                     refine ⟨rfl, t, 3, v, ?_, ?_, ?_, Or.inr (by omega)⟩
                     · first | (rw [hpe]; exact rqM_ext (fun k h => by funext j; simp [rqM, ot_up, h]) (fun j h1 h2 h3 h4 => by simp [rqM, ot_up, h1, h2, h3, h4]) (by simp [rqM, ot_up]) (by simp [rqM, ot_up]) (by simp [rqM, ot_up]) (by simp [rqM, ot_up])) | rw [hpe]
                     · rw [hpe, if_pos hin2.1, hen]
                     · rw [hpe]
                       exact Or.inr (Or.inr (Or.inr (Or.inl ⟨htk, rfl, hve, by omega, hv4⟩))))
                  | (rw [if_neg (by omega)] at htk
                     refine ⟨rfl, t, 1, v, ?_, ?_, ?_, Or.inr (by omega)⟩
                     · first | (rw [hpe]; exact rqM_ext (fun k h => by funext j; simp [rqM, ot_up, h]) (fun j h1 h2 h3 h4 => by simp [rqM, ot_up, h1, h2, h3, h4]) (by simp [rqM, ot_up]) (by simp [rqM, ot_up]) (by simp [rqM, ot_up]) (by simp [rqM, ot_up])) | rw [hpe]
                     · rw [hpe, if_pos hin2.1, hen]
                     · rw [hpe]
                       exact Or.inr (Or.inl ⟨htk, rfl⟩))
                  | (have hsg : sgL.contains (T i) = true := sg_list.mpr (mkq hz262 (by omega))
                     have hsl := sg_list.mp hsg
                     rw [if_pos hsg] at htk
                     refine ⟨rfl, i + 1, 4, T i, ?_, ?_, ?_, Or.inr (by omega)⟩
                     · first | (rw [hpe]; exact rqM_ext (fun k h => by funext j; simp [rqM, ot_up, h]) (fun j h1 h2 h3 h4 => by simp [rqM, ot_up, h1, h2, h3, h4]) (by simp [rqM, ot_up]) (by simp [rqM, ot_up]) (by simp [rqM, ot_up]) (by simp [rqM, ot_up])) | rw [hpe]
                     · rw [hpe, if_pos hin2.1, hen]
                     · rw [hpe]
                       exact Or.inr (Or.inr (Or.inr (Or.inr ⟨by rw [htk]; omega, by rw [htk]; omega, rfl, htk.symm⟩))))
                  | (have hsg : ¬ sgL.contains (T i) = true := fun q => mkn hz262 (by omega) (sg_list.mp q)
                     rw [if_neg hsg] at htk
                     refine ⟨rfl, i + 1, 1, T i, ?_, ?_, ?_, Or.inr (by omega)⟩
                     · first | (rw [hpe]; exact rqM_ext (fun k h => by funext j; simp [rqM, ot_up, h]) (fun j h1 h2 h3 h4 => by simp [rqM, ot_up, h1, h2, h3, h4]) (by simp [rqM, ot_up]) (by simp [rqM, ot_up]) (by simp [rqM, ot_up]) (by simp [rqM, ot_up])) | rw [hpe]
                     · rw [hpe, if_pos hin2.1, hen]
                     · rw [hpe]
                       exact Or.inr (Or.inl ⟨htk, rfl⟩))
            · refine tt_aload_n X rfl dX10_reads_186 ?_
              refine tt_aload_n X rfl dX10_reads_187 ?_
              refine tt_geti X fX10_148 (k_60 _ _) (by decide) (Or.inl rfl) dX10_reads_188 ?_
              try simp (disch := decide) only [ot_rd, ot_rs, ot_rf, ot_ucd, ot_ucs, rqM_o, rqM_f, rqM_18, rqM_19, rqM_20, rqM_21]
              refine tt_sipush X (by decide) dX10_reads_191 ?_
              refine tt_icmp_ge X 219 (by first | omega | (simp (disch := decide) only [ot_rd, ot_rs, ot_rf, ot_ucd, ot_ucs, rqM_o, rqM_f, rqM_18, rqM_19, rqM_20, rqM_21]; omega)) dX10_reads_194 (by decide) (fun b194 => ?_) (fun b194 => ?_)
              · refine tt_aload_n X rfl dX10_reads_219 ?_
                refine tt_geti X fX10_148 (k_60 _ _) (by decide) (Or.inl rfl) dX10_reads_220 ?_
                try simp (disch := decide) only [ot_rd, ot_rs, ot_rf, ot_ucd, ot_ucs, rqM_o, rqM_f, rqM_18, rqM_19, rqM_20, rqM_21]
                refine tt_puti X fX10_148 kc_10 (k_60 _ _) (by decide) (fun q hq => by cases hq; rfl) rfl dX10_reads_223 ?_
                refine tt_aload_n X rfl dX10_reads_226 ?_
                refine tt_aload_n X rfl dX10_reads_227 ?_
                refine tt_geti X fX10_135 (k_60 _ _) (by decide) (Or.inl rfl) dX10_reads_228 ?_
                try simp (disch := decide) only [ot_rd, ot_rs, ot_rf, ot_ucd, ot_ucs, rqM_o, rqM_f, rqM_18, rqM_19, rqM_20, rqM_21]
                refine tt_iconst X dX10_reads_231 ?_
                refine tt_iadd X dX10_reads_232 ?_
                refine tt_puti X fX10_135 kc_10 (k_60 _ _) (by decide) (fun q hq => by cases hq; rfl) rfl dX10_reads_233 ?_
                refine tt_goto X 171 dX10_reads_236 (by decide) ?_
                refine tt_loc [(0, _), (1, _)] ⟨rfl, rfl, trivial⟩ ?_
                have hl2 : dgB (T t) = true ∧ t < n := by
                  have q := dgq hz180 (by omega)
                  have q1 := rawN_in (n := n) (i := t) hT2 (by intro e1; rw [e1] at q; exact absurd q (by decide))
                  rw [q1.2] at q
                  exact ⟨q, q1.1⟩
                have hdt := of_decide_eq_true hl2.1
                have hdr : t - i ≤ 3 → v < 10000 ∧ dvN T i (t + 1 - i) = v * 10 + T t - 48 := fun h3 => by
                  have q1 := hI3.2.2.1 (by omega)
                  have q2 := dvN_rng (T := T) (a := i) (t - i) (by omega) (fun u hu => by
                    by_cases e1 : u = 0
                    · rw [e1, Nat.add_zero]; exact hdi
                    · exact of_decide_eq_true (hI3.2.1 (i + u) (by omega) (by omega)))
                  have q3 : (10 ^ (t - i) : Nat) ≤ 10 ^ 3 := Nat.pow_le_pow_right (by decide) h3
                  refine ⟨by omega, ?_⟩
                  rw [show t + 1 - i = (t - i) + 1 by omega]
                  show dvN T i (t - i) * 10 + T (i + (t - i)) - 48 = _
                  rw [← q1, show i + (t - i) = t by omega]
                first
                  | (have hrt : rawN T n t = T t := (rawN_in (n := n) (i := t) hT2 (by unfold rawN; rw [if_pos hl2.2]; have := hT2 t; omega)).2
                     refine tt_mem (μ' := rqM μ ((t + 1 : Nat) : Int) (i : Int) 1 (10 * v + T t - 48)) (by rw [← hrt]; exact rqM_ext (fun k h => by funext j; simp [rqM, ot_up, h]) (fun j h1 h2 h3 h4 => by simp [rqM, ot_up, h1, h2, h3, h4]) (by simp [rqM, ot_up]) (by simp [rqM, ot_up]) (by simp [rqM, ot_up]) (by simp [rqM, ot_up])) ?_
                     refine ih3 (t + 1, 10 * v + T t - 48) ⟨by show i + 1 ≤ t + 1 ∧ t + 1 ≤ n; omega, fun u h1 h2 => ?_, fun h5 => ?_, by show 0 ≤ 10 * v + T t - 48 ∧ 10 * v + T t - 48 ≤ 99999; omega⟩ (by show n - (t + 1) < n - t; omega)
                     · by_cases e1 : u = t
                       · rw [e1]; exact hl2.1
                       · exact hI3.2.1 u h1 (by omega)
                     · show 10 * v + T t - 48 = dvN T i (t + 1 - i)
                       have := (hdr (by omega)).2
                       omega)
                  | (refine tt_mem (μ' := rqM μ ((t + 1 : Nat) : Int) (i : Int) 1 v) (rqM_ext (fun k h => by funext j; simp [rqM, ot_up, h]) (fun j h1 h2 h3 h4 => by simp [rqM, ot_up, h1, h2, h3, h4]) (by simp [rqM, ot_up]) (by simp [rqM, ot_up]) (by simp [rqM, ot_up]) (by simp [rqM, ot_up])) ?_
                     refine ih3 (t + 1, v) ⟨by show i + 1 ≤ t + 1 ∧ t + 1 ≤ n; omega, fun u h1 h2 => ?_, fun h5 => ?_, hI3.2.2.2⟩ (by show n - (t + 1) < n - t; omega)
                     · by_cases e1 : u = t
                       · rw [e1]; exact hl2.1
                       · exact hI3.2.1 u h1 (by omega)
                     · have := (hdr (by omega)).1
                       omega)
              · refine tt_bipush X (by decide) dX10_reads_197 ?_
                refine tt_aload_n X rfl dX10_reads_199 ?_
                refine tt_geti X fX10_148 (k_60 _ _) (by decide) (Or.inl rfl) dX10_reads_200 ?_
                try simp (disch := decide) only [ot_rd, ot_rs, ot_rf, ot_ucd, ot_ucs, rqM_o, rqM_f, rqM_18, rqM_19, rqM_20, rqM_21]
                refine tt_imul X dX10_reads_203 ?_
                refine tt_aload_n X rfl dX10_reads_204 ?_
                refine tt_aload_n X rfl dX10_reads_205 ?_
                refine tt_geti X fX10_135 (k_60 _ _) (by decide) (Or.inl rfl) dX10_reads_206 ?_
                try simp (disch := decide) only [ot_rd, ot_rs, ot_rf, ot_ucd, ot_ucs, rqM_o, rqM_f, rqM_18, rqM_19, rqM_20, rqM_21]
                refine tt_vi X rfl mX10_138 (q_raw l g ln ext _ (t : Int) (by omega) (by first | (simp (disch := decide) only [ot_ucd, ot_ucs, ot_rd, ot_rs, ot_rf, rqM_o, rqM_f, rqM_18, rqM_19, rqM_20, rqM_21]; omega) | (simp (disch := decide) only [ot_rd, ot_rs, ot_rf, ot_ucd, ot_ucs, ot_rdf]; omega) | omega)) (k_60 _ _) ⟨_, rfl, rfl⟩ rfl rfl (Nat.le_of_ble_eq_true rfl) (by decide) (by decide) (by decide) dX10_reads_209 (fun z209 L209 μ209 hp => ?_)
                obtain ⟨rfl, e209, hz209⟩ := hp
                replace e209 := e209.symm
                subst e209
                first | simp (disch := decide) only [ot_ucd, ot_ucs, ot_rd, ot_rs, ot_rf, rqM_o, rqM_f, rqM_18, rqM_19, rqM_20, rqM_21] at hz209 | skip
                replace hz209 := raw_eq hnt hT hz209
                refine tt_top hz209 ?_
                have hrr209 := rawN_rng (n := n) (i := t) hT2
                try simp (disch := decide) only [ot_rd, ot_rs, ot_rf, ot_ucd, ot_ucs, rqM_o, rqM_f, rqM_18, rqM_19, rqM_20, rqM_21] at hz209
                refine tt_iadd X dX10_reads_212 ?_
                refine tt_bipush X (by decide) dX10_reads_213 ?_
                refine tt_isub X dX10_reads_215 ?_
                refine tt_goto X 223 dX10_reads_216 (by decide) ?_
                refine tt_puti X fX10_148 kc_10 (k_60 _ _) (by decide) (fun q hq => by cases hq; rfl) rfl dX10_reads_223 ?_
                refine tt_aload_n X rfl dX10_reads_226 ?_
                refine tt_aload_n X rfl dX10_reads_227 ?_
                refine tt_geti X fX10_135 (k_60 _ _) (by decide) (Or.inl rfl) dX10_reads_228 ?_
                try simp (disch := decide) only [ot_rd, ot_rs, ot_rf, ot_ucd, ot_ucs, rqM_o, rqM_f, rqM_18, rqM_19, rqM_20, rqM_21]
                refine tt_iconst X dX10_reads_231 ?_
                refine tt_iadd X dX10_reads_232 ?_
                refine tt_puti X fX10_135 kc_10 (k_60 _ _) (by decide) (fun q hq => by cases hq; rfl) rfl dX10_reads_233 ?_
                refine tt_goto X 171 dX10_reads_236 (by decide) ?_
                refine tt_loc [(0, _), (1, _)] ⟨rfl, rfl, trivial⟩ ?_
                have hl2 : dgB (T t) = true ∧ t < n := by
                  have q := dgq hz180 (by omega)
                  have q1 := rawN_in (n := n) (i := t) hT2 (by intro e1; rw [e1] at q; exact absurd q (by decide))
                  rw [q1.2] at q
                  exact ⟨q, q1.1⟩
                have hdt := of_decide_eq_true hl2.1
                have hdr : t - i ≤ 3 → v < 10000 ∧ dvN T i (t + 1 - i) = v * 10 + T t - 48 := fun h3 => by
                  have q1 := hI3.2.2.1 (by omega)
                  have q2 := dvN_rng (T := T) (a := i) (t - i) (by omega) (fun u hu => by
                    by_cases e1 : u = 0
                    · rw [e1, Nat.add_zero]; exact hdi
                    · exact of_decide_eq_true (hI3.2.1 (i + u) (by omega) (by omega)))
                  have q3 : (10 ^ (t - i) : Nat) ≤ 10 ^ 3 := Nat.pow_le_pow_right (by decide) h3
                  refine ⟨by omega, ?_⟩
                  rw [show t + 1 - i = (t - i) + 1 by omega]
                  show dvN T i (t - i) * 10 + T (i + (t - i)) - 48 = _
                  rw [← q1, show i + (t - i) = t by omega]
                first
                  | (have hrt : rawN T n t = T t := (rawN_in (n := n) (i := t) hT2 (by unfold rawN; rw [if_pos hl2.2]; have := hT2 t; omega)).2
                     refine tt_mem (μ' := rqM μ ((t + 1 : Nat) : Int) (i : Int) 1 (10 * v + T t - 48)) (by rw [← hrt]; exact rqM_ext (fun k h => by funext j; simp [rqM, ot_up, h]) (fun j h1 h2 h3 h4 => by simp [rqM, ot_up, h1, h2, h3, h4]) (by simp [rqM, ot_up]) (by simp [rqM, ot_up]) (by simp [rqM, ot_up]) (by simp [rqM, ot_up])) ?_
                     refine ih3 (t + 1, 10 * v + T t - 48) ⟨by show i + 1 ≤ t + 1 ∧ t + 1 ≤ n; omega, fun u h1 h2 => ?_, fun h5 => ?_, by show 0 ≤ 10 * v + T t - 48 ∧ 10 * v + T t - 48 ≤ 99999; omega⟩ (by show n - (t + 1) < n - t; omega)
                     · by_cases e1 : u = t
                       · rw [e1]; exact hl2.1
                       · exact hI3.2.1 u h1 (by omega)
                     · show 10 * v + T t - 48 = dvN T i (t + 1 - i)
                       have := (hdr (by omega)).2
                       omega)
                  | (refine tt_mem (μ' := rqM μ ((t + 1 : Nat) : Int) (i : Int) 1 v) (rqM_ext (fun k h => by funext j; simp [rqM, ot_up, h]) (fun j h1 h2 h3 h4 => by simp [rqM, ot_up, h1, h2, h3, h4]) (by simp [rqM, ot_up]) (by simp [rqM, ot_up]) (by simp [rqM, ot_up]) (by simp [rqM, ot_up])) ?_
                     refine ih3 (t + 1, v) ⟨by show i + 1 ≤ t + 1 ∧ t + 1 ≤ n; omega, fun u h1 h2 => ?_, fun h5 => ?_, hI3.2.2.2⟩ (by show n - (t + 1) < n - t; omega)
                     · by_cases e1 : u = t
                       · rw [e1]; exact hl2.1
                       · exact hI3.2.1 u h1 (by omega)
                     · have := (hdr (by omega)).1
                       omega)
        · refine tt_loc [(0, _), (1, _)] ⟨rfl, rfl, trivial⟩ ?_
          refine tt_loop (α := Nat) (fun t => n - t) (fun t => (i + 1 ≤ t ∧ t ≤ n) ∧ ∀ u, i + 1 ≤ u → u < t → ltB (T u) = true) (fun t => rqM μ (t : Int) (i : Int) 1 (T i)) (fun t => [(0, .inr 60), (1, .inl (T i))]) (i + 1) ⟨⟨Nat.le_refl _, by omega⟩, fun u h1 h2 => by omega⟩ ?_
          intro t hI2 ih2
          try dsimp only at hI2 ih2 ⊢
          have ht := hI2.1
          refine tt_aload_n X rfl dX10_reads_95 ?_
          refine tt_aload_n X rfl dX10_reads_96 ?_
          refine tt_aload_n X rfl dX10_reads_97 ?_
          refine tt_geti X fX10_135 (k_60 _ _) (by decide) (Or.inl rfl) dX10_reads_98 ?_
          try simp (disch := decide) only [ot_rd, ot_rs, ot_rf, ot_ucd, ot_ucs, rqM_o, rqM_f, rqM_18, rqM_19, rqM_20, rqM_21]
          refine tt_vi X rfl mX10_138 (q_raw l g ln ext _ (t : Int) (by omega) (by first | (simp (disch := decide) only [ot_ucd, ot_ucs, ot_rd, ot_rs, ot_rf, rqM_o, rqM_f, rqM_18, rqM_19, rqM_20, rqM_21]; omega) | (simp (disch := decide) only [ot_rd, ot_rs, ot_rf, ot_ucd, ot_ucs, ot_rdf]; omega) | omega)) (k_60 _ _) ⟨_, rfl, rfl⟩ rfl rfl (Nat.le_of_ble_eq_true rfl) (by decide) (by decide) (by decide) dX10_reads_101 (fun z101 L101 μ101 hp => ?_)
          obtain ⟨rfl, e101, hz101⟩ := hp
          replace e101 := e101.symm
          subst e101
          first | simp (disch := decide) only [ot_ucd, ot_ucs, ot_rd, ot_rs, ot_rf, rqM_o, rqM_f, rqM_18, rqM_19, rqM_20, rqM_21] at hz101 | skip
          replace hz101 := raw_eq hnt hT hz101
          refine tt_top hz101 ?_
          have hrr101 := rawN_rng (n := n) (i := t) hT2
          try simp (disch := decide) only [ot_rd, ot_rs, ot_rf, ot_ucd, ot_ucs, rqM_o, rqM_f, rqM_18, rqM_19, rqM_20, rqM_21] at hz101
          refine tt_vi X rfl mX10_151 (q_isLetter l g ln ext _ (rawN T n t) (by omega)) (k_60 _ _) ⟨_, rfl, rfl⟩ rfl rfl (Nat.le_of_ble_eq_true rfl) (by decide) (by decide) (by decide) dX10_reads_104 (fun z104 L104 μ104 hp => ?_)
          obtain ⟨rfl, e104, hz104⟩ := hp
          replace e104 := e104.symm
          subst e104
          try simp (disch := decide) only [ot_rd, ot_rs, ot_rf, ot_ucd, ot_ucs, rqM_o, rqM_f, rqM_18, rqM_19, rqM_20, rqM_21] at hz104
          refine tt_if_eq X 123 (by rw [hz104]; split <;> omega) dX10_reads_107 (by decide) (fun b107 => ?_) (fun b107 => ?_)
          · have hlt : ltB (T i) = true := ltq hz89 (by omega)
            have hen : enN T n i = t := by
              refine en_lt hlt ht hI2.2 ?_
              by_cases w : t = n
              · exact Or.inl w
              · right
                have q := ltn hz104 (by omega)
                unfold rawN at q
                rw [if_pos (by omega)] at q
                exact q
            have hll : ∀ k, i ≤ k → k < t → ltB (T k) = true := fun k h1 h2 => by
              by_cases e1 : k = i
              · rw [e1]; exact hlt
              · exact hI2.2 k (by omega) h2
            have htk := tk_lt (n := n) hin2.1 hlt hen
            refine tt_aload_n X rfl dX10_reads_123 ?_
            refine tt_aload_n X rfl dX10_reads_124 ?_
            refine tt_aload_n X rfl dX10_reads_125 ?_
            refine tt_geti X fX10_142 (k_60 _ _) (by decide) (Or.inl rfl) dX10_reads_126 ?_
            try simp (disch := decide) only [ot_rd, ot_rs, ot_rf, ot_ucd, ot_ucs, rqM_o, rqM_f, rqM_18, rqM_19, rqM_20, rqM_21]
            refine tt_aload_n X rfl dX10_reads_129 ?_
            refine tt_geti X fX10_135 (k_60 _ _) (by decide) (Or.inl rfl) dX10_reads_130 ?_
            try simp (disch := decide) only [ot_rd, ot_rs, ot_rf, ot_ucd, ot_ucs, rqM_o, rqM_f, rqM_18, rqM_19, rqM_20, rqM_21]
            refine tt_vi X rfl mX10_154 (q_wordAt l g ln ext _ (by rw [rqM_o (by decide)]; exact hwd) i t (by omega) T n (by rw [rqM_o (by decide)]; exact hT) hT2 hn (by omega) hll) (k_60 _ _) ⟨_, rfl, rfl⟩ rfl rfl (Nat.le_of_ble_eq_true rfl) (by decide) (by decide) (by decide) dX10_reads_133 (fun z133 L133 μ133 hp => ?_)
            obtain ⟨rfl, e133, hz133⟩ := hp
            replace e133 := e133.symm
            subst e133
            try simp (disch := decide) only [ot_rd, ot_rs, ot_rf, ot_ucd, ot_ucs, rqM_o, rqM_f, rqM_18, rqM_19, rqM_20, rqM_21] at hz133
            have hkw : -1 ≤ z133 ∧ z133 ≤ 13 := by rw [hz133]; split <;> omega
            refine tt_puti X fX10_148 kc_10 (k_60 _ _) (by decide) (fun q hq => by cases hq; rfl) rfl dX10_reads_136 ?_
            refine tt_aload_n X rfl dX10_reads_139 ?_
            refine tt_geti X fX10_148 (k_60 _ _) (by decide) (Or.inl rfl) dX10_reads_140 ?_
            try simp (disch := decide) only [ot_rd, ot_rs, ot_rf, ot_ucd, ot_ucs, rqM_o, rqM_f, rqM_18, rqM_19, rqM_20, rqM_21]
            refine tt_iconst X dX10_reads_143 ?_
            refine tt_icmp_eq X 273 (by first | omega | (simp (disch := decide) only [ot_rd, ot_rs, ot_rf, ot_ucd, ot_ucs, rqM_o, rqM_f, rqM_18, rqM_19, rqM_20, rqM_21]; omega)) dX10_reads_144 (by decide) (fun b144 => ?_) (fun b144 => ?_)
            · refine tt_vret X ⟨hr.1, hr.2.1⟩ (by decide) (by decide) dX10_reads_273 ?_
              first
                | (have hk14 : kwN T i t < 14 := by
                     apply Classical.byContradiction
                     intro w
                     rw [if_neg w] at hz133
                     omega
                   rw [if_pos hk14] at hz133 htk
                   refine ⟨rfl, t, 2, z133, ?_, ?_, ?_, Or.inr (by omega)⟩
                   · first | (rw [hpe]; exact rqM_ext (fun k h => by funext j; simp [rqM, ot_up, h]) (fun j h1 h2 h3 h4 => by simp [rqM, ot_up, h1, h2, h3, h4]) (by simp [rqM, ot_up]) (by simp [rqM, ot_up]) (by simp [rqM, ot_up]) (by simp [rqM, ot_up])) | rw [hpe]
                   · rw [hpe, if_pos hin2.1, hen]
                   · rw [hpe]
                     exact Or.inr (Or.inr (Or.inl ⟨by omega, rfl, by omega⟩)))
                | (have hk14 : ¬ kwN T i t < 14 := by
                     intro w
                     rw [if_pos w] at hz133
                     omega
                   rw [if_neg hk14] at hz133 htk
                   refine ⟨rfl, t, 1, z133, ?_, ?_, ?_, Or.inr (by omega)⟩
                   · first | (rw [hpe]; exact rqM_ext (fun k h => by funext j; simp [rqM, ot_up, h]) (fun j h1 h2 h3 h4 => by simp [rqM, ot_up, h1, h2, h3, h4]) (by simp [rqM, ot_up]) (by simp [rqM, ot_up]) (by simp [rqM, ot_up]) (by simp [rqM, ot_up])) | rw [hpe]
                   · rw [hpe, if_pos hin2.1, hen]
                   · rw [hpe]
                     exact Or.inr (Or.inl ⟨htk, rfl⟩))
                | (rw [if_pos (by omega)] at htk
                   have hve : v = vlN T n i := by unfold vlN; rw [hen, Nat.min_eq_left (by omega)]; exact hI3.2.2.1 (by omega)
                   have hv4 : v ≤ 9999 := by
                     have q2 := dvN_rng (T := T) (a := i) (t - i) (by omega) (fun u hu => by
                       by_cases e1 : u = 0
                       · rw [e1, Nat.add_zero]; exact hdi
                       · exact of_decide_eq_true (hI3.2.1 (i + u) (by omega) (by omega)))
                     have q1 := hI3.2.2.1 (by omega)
                     have q3 : (10 ^ (t - i) : Nat) ≤ 10 ^ 4 := Nat.pow_le_pow_right (by decide) (by omega)
                     omega
                   refine ⟨rfl, t, 3, v, ?_, ?_, ?_, Or.inr (by omega)⟩
                   · first | (rw [hpe]; exact rqM_ext (fun k h => by funext j; simp [rqM, ot_up, h]) (fun j h1 h2 h3 h4 => by simp [rqM, ot_up, h1, h2, h3, h4]) (by simp [rqM, ot_up]) (by simp [rqM, ot_up]) (by simp [rqM, ot_up]) (by simp [rqM, ot_up])) | rw [hpe]
                   · rw [hpe, if_pos hin2.1, hen]
                   · rw [hpe]
                     exact Or.inr (Or.inr (Or.inr (Or.inl ⟨htk, rfl, hve, by omega, hv4⟩))))
                | (rw [if_neg (by omega)] at htk
                   refine ⟨rfl, t, 1, v, ?_, ?_, ?_, Or.inr (by omega)⟩
                   · first | (rw [hpe]; exact rqM_ext (fun k h => by funext j; simp [rqM, ot_up, h]) (fun j h1 h2 h3 h4 => by simp [rqM, ot_up, h1, h2, h3, h4]) (by simp [rqM, ot_up]) (by simp [rqM, ot_up]) (by simp [rqM, ot_up]) (by simp [rqM, ot_up])) | rw [hpe]
                   · rw [hpe, if_pos hin2.1, hen]
                   · rw [hpe]
                     exact Or.inr (Or.inl ⟨htk, rfl⟩))
                | (have hsg : sgL.contains (T i) = true := sg_list.mpr (mkq hz262 (by omega))
                   have hsl := sg_list.mp hsg
                   rw [if_pos hsg] at htk
                   refine ⟨rfl, i + 1, 4, T i, ?_, ?_, ?_, Or.inr (by omega)⟩
                   · first | (rw [hpe]; exact rqM_ext (fun k h => by funext j; simp [rqM, ot_up, h]) (fun j h1 h2 h3 h4 => by simp [rqM, ot_up, h1, h2, h3, h4]) (by simp [rqM, ot_up]) (by simp [rqM, ot_up]) (by simp [rqM, ot_up]) (by simp [rqM, ot_up])) | rw [hpe]
                   · rw [hpe, if_pos hin2.1, hen]
                   · rw [hpe]
                     exact Or.inr (Or.inr (Or.inr (Or.inr ⟨by rw [htk]; omega, by rw [htk]; omega, rfl, htk.symm⟩))))
                | (have hsg : ¬ sgL.contains (T i) = true := fun q => mkn hz262 (by omega) (sg_list.mp q)
                   rw [if_neg hsg] at htk
                   refine ⟨rfl, i + 1, 1, T i, ?_, ?_, ?_, Or.inr (by omega)⟩
                   · first | (rw [hpe]; exact rqM_ext (fun k h => by funext j; simp [rqM, ot_up, h]) (fun j h1 h2 h3 h4 => by simp [rqM, ot_up, h1, h2, h3, h4]) (by simp [rqM, ot_up]) (by simp [rqM, ot_up]) (by simp [rqM, ot_up]) (by simp [rqM, ot_up])) | rw [hpe]
                   · rw [hpe, if_pos hin2.1, hen]
                   · rw [hpe]
                     exact Or.inr (Or.inl ⟨htk, rfl⟩))
            · refine tt_aload_n X rfl dX10_reads_147 ?_
              refine tt_iconst X dX10_reads_148 ?_
              refine tt_puti X fX10_145 kc_10 (k_60 _ _) (by decide) (fun q hq => by cases hq; rfl) rfl dX10_reads_149 ?_
              refine tt_goto X 273 dX10_reads_152 (by decide) ?_
              refine tt_vret X ⟨hr.1, hr.2.1⟩ (by decide) (by decide) dX10_reads_273 ?_
              first
                | (have hk14 : kwN T i t < 14 := by
                     apply Classical.byContradiction
                     intro w
                     rw [if_neg w] at hz133
                     omega
                   rw [if_pos hk14] at hz133 htk
                   refine ⟨rfl, t, 2, z133, ?_, ?_, ?_, Or.inr (by omega)⟩
                   · first | (rw [hpe]; exact rqM_ext (fun k h => by funext j; simp [rqM, ot_up, h]) (fun j h1 h2 h3 h4 => by simp [rqM, ot_up, h1, h2, h3, h4]) (by simp [rqM, ot_up]) (by simp [rqM, ot_up]) (by simp [rqM, ot_up]) (by simp [rqM, ot_up])) | rw [hpe]
                   · rw [hpe, if_pos hin2.1, hen]
                   · rw [hpe]
                     exact Or.inr (Or.inr (Or.inl ⟨by omega, rfl, by omega⟩)))
                | (have hk14 : ¬ kwN T i t < 14 := by
                     intro w
                     rw [if_pos w] at hz133
                     omega
                   rw [if_neg hk14] at hz133 htk
                   refine ⟨rfl, t, 1, z133, ?_, ?_, ?_, Or.inr (by omega)⟩
                   · first | (rw [hpe]; exact rqM_ext (fun k h => by funext j; simp [rqM, ot_up, h]) (fun j h1 h2 h3 h4 => by simp [rqM, ot_up, h1, h2, h3, h4]) (by simp [rqM, ot_up]) (by simp [rqM, ot_up]) (by simp [rqM, ot_up]) (by simp [rqM, ot_up])) | rw [hpe]
                   · rw [hpe, if_pos hin2.1, hen]
                   · rw [hpe]
                     exact Or.inr (Or.inl ⟨htk, rfl⟩))
                | (rw [if_pos (by omega)] at htk
                   have hve : v = vlN T n i := by unfold vlN; rw [hen, Nat.min_eq_left (by omega)]; exact hI3.2.2.1 (by omega)
                   have hv4 : v ≤ 9999 := by
                     have q2 := dvN_rng (T := T) (a := i) (t - i) (by omega) (fun u hu => by
                       by_cases e1 : u = 0
                       · rw [e1, Nat.add_zero]; exact hdi
                       · exact of_decide_eq_true (hI3.2.1 (i + u) (by omega) (by omega)))
                     have q1 := hI3.2.2.1 (by omega)
                     have q3 : (10 ^ (t - i) : Nat) ≤ 10 ^ 4 := Nat.pow_le_pow_right (by decide) (by omega)
                     omega
                   refine ⟨rfl, t, 3, v, ?_, ?_, ?_, Or.inr (by omega)⟩
                   · first | (rw [hpe]; exact rqM_ext (fun k h => by funext j; simp [rqM, ot_up, h]) (fun j h1 h2 h3 h4 => by simp [rqM, ot_up, h1, h2, h3, h4]) (by simp [rqM, ot_up]) (by simp [rqM, ot_up]) (by simp [rqM, ot_up]) (by simp [rqM, ot_up])) | rw [hpe]
                   · rw [hpe, if_pos hin2.1, hen]
                   · rw [hpe]
                     exact Or.inr (Or.inr (Or.inr (Or.inl ⟨htk, rfl, hve, by omega, hv4⟩))))
                | (rw [if_neg (by omega)] at htk
                   refine ⟨rfl, t, 1, v, ?_, ?_, ?_, Or.inr (by omega)⟩
                   · first | (rw [hpe]; exact rqM_ext (fun k h => by funext j; simp [rqM, ot_up, h]) (fun j h1 h2 h3 h4 => by simp [rqM, ot_up, h1, h2, h3, h4]) (by simp [rqM, ot_up]) (by simp [rqM, ot_up]) (by simp [rqM, ot_up]) (by simp [rqM, ot_up])) | rw [hpe]
                   · rw [hpe, if_pos hin2.1, hen]
                   · rw [hpe]
                     exact Or.inr (Or.inl ⟨htk, rfl⟩))
                | (have hsg : sgL.contains (T i) = true := sg_list.mpr (mkq hz262 (by omega))
                   have hsl := sg_list.mp hsg
                   rw [if_pos hsg] at htk
                   refine ⟨rfl, i + 1, 4, T i, ?_, ?_, ?_, Or.inr (by omega)⟩
                   · first | (rw [hpe]; exact rqM_ext (fun k h => by funext j; simp [rqM, ot_up, h]) (fun j h1 h2 h3 h4 => by simp [rqM, ot_up, h1, h2, h3, h4]) (by simp [rqM, ot_up]) (by simp [rqM, ot_up]) (by simp [rqM, ot_up]) (by simp [rqM, ot_up])) | rw [hpe]
                   · rw [hpe, if_pos hin2.1, hen]
                   · rw [hpe]
                     exact Or.inr (Or.inr (Or.inr (Or.inr ⟨by rw [htk]; omega, by rw [htk]; omega, rfl, htk.symm⟩))))
                | (have hsg : ¬ sgL.contains (T i) = true := fun q => mkn hz262 (by omega) (sg_list.mp q)
                   rw [if_neg hsg] at htk
                   refine ⟨rfl, i + 1, 1, T i, ?_, ?_, ?_, Or.inr (by omega)⟩
                   · first | (rw [hpe]; exact rqM_ext (fun k h => by funext j; simp [rqM, ot_up, h]) (fun j h1 h2 h3 h4 => by simp [rqM, ot_up, h1, h2, h3, h4]) (by simp [rqM, ot_up]) (by simp [rqM, ot_up]) (by simp [rqM, ot_up]) (by simp [rqM, ot_up])) | rw [hpe]
                   · rw [hpe, if_pos hin2.1, hen]
                   · rw [hpe]
                     exact Or.inr (Or.inl ⟨htk, rfl⟩))
          · refine tt_aload_n X rfl dX10_reads_110 ?_
            refine tt_aload_n X rfl dX10_reads_111 ?_
            refine tt_geti X fX10_135 (k_60 _ _) (by decide) (Or.inl rfl) dX10_reads_112 ?_
            try simp (disch := decide) only [ot_rd, ot_rs, ot_rf, ot_ucd, ot_ucs, rqM_o, rqM_f, rqM_18, rqM_19, rqM_20, rqM_21]
            refine tt_iconst X dX10_reads_115 ?_
            refine tt_iadd X dX10_reads_116 ?_
            refine tt_puti X fX10_135 kc_10 (k_60 _ _) (by decide) (fun q hq => by cases hq; rfl) rfl dX10_reads_117 ?_
            refine tt_goto X 95 dX10_reads_120 (by decide) ?_
            refine tt_loc [(0, _), (1, _)] ⟨rfl, rfl, trivial⟩ ?_
            have hl2 : ltB (T t) = true ∧ t < n := by
              have q := ltq hz104 (by omega)
              have q1 := rawN_in (n := n) (i := t) hT2 (by intro e1; rw [e1] at q; exact absurd q (by decide))
              rw [q1.2] at q
              exact ⟨q, q1.1⟩
            refine tt_mem (μ' := rqM μ ((t + 1 : Nat) : Int) (i : Int) 1 (T i)) (rqM_ext (fun k h => by funext j; simp [rqM, ot_up, h]) (fun j h1 h2 h3 h4 => by simp [rqM, ot_up, h1, h2, h3, h4]) (by simp [rqM, ot_up]) (by simp [rqM, ot_up]) (by simp [rqM, ot_up]) (by simp [rqM, ot_up])) ?_
            refine ih2 (t + 1) ⟨by omega, fun u h1 h2 => ?_⟩ (by omega)
            by_cases e1 : u = t
            · rw [e1]; exact hl2.1
            · exact hI2.2 u h1 (by omega)
      · refine tt_aload_n X rfl dX10_reads_66 ?_
        refine tt_iconst X dX10_reads_67 ?_
        refine tt_puti X fX10_145 kc_10 (k_60 _ _) (by decide) (fun q hq => by cases hq; rfl) rfl dX10_reads_68 ?_
        refine tt_vret X ⟨hr.1, hr.2.1⟩ (by decide) (by decide) dX10_reads_71 ?_
        have hni := rawN_out (n := n) (i := i) hT2 (by omega)
        refine ⟨rfl, i, 0, μ 60 21, ?_, ?_, ?_, Or.inl rfl⟩
        · first | (rw [hpe]; exact rqM_ext (fun k h => by funext j; simp [rqM, ot_up, h]) (fun j h1 h2 h3 h4 => by simp [rqM, ot_up, h1, h2, h3, h4]) (by simp [rqM, ot_up]) (by simp [rqM, ot_up]) (by simp [rqM, ot_up]) (by simp [rqM, ot_up])) | rw [hpe]
        · rw [hpe, if_neg (by omega)]; omega
        · rw [hpe]
          refine Or.inl ⟨?_, rfl⟩
          unfold tkN
          rw [if_pos hni]
    · refine tt_aload_n X rfl dX10_reads_26 ?_
      refine tt_aload_n X rfl dX10_reads_27 ?_
      refine tt_geti X fX10_135 (k_60 _ _) (by decide) (Or.inl rfl) dX10_reads_28 ?_
      try simp (disch := decide) only [ot_rd, ot_rs, ot_rf, ot_ucd, ot_ucs, rqM_o, rqM_f, rqM_18, rqM_19, rqM_20, rqM_21]
      refine tt_iconst X dX10_reads_31 ?_
      refine tt_iadd X dX10_reads_32 ?_
      refine tt_puti X fX10_135 kc_10 (k_60 _ _) (by decide) (fun q hq => by cases hq; rfl) rfl dX10_reads_33 ?_
      refine tt_goto X 0 dX10_reads_36 (by decide) ?_
      refine tt_loc [(0, _)] ⟨rfl, trivial⟩ ?_
      have hin2 : i < n ∧ blB (T i) = true := by
        have q := rawN_in (n := n) (i := i) hT2 (by omega)
        exact ⟨q.1, decide_eq_true (by omega)⟩
      refine tt_mem (μ' := ot_up μ 60 18 ((i + 1 : Nat) : Int)) (by funext k j; by_cases w1 : k = 60 <;> by_cases w2 : j = 18 <;> simp [ot_up, w1, w2]) ?_
      exact ih (i + 1) ⟨by omega, by rw [hI.2]; exact rnN_step hin2.1 hin2.2⟩ (by omega)

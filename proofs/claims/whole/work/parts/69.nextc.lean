set_option maxRecDepth 100000 in
set_option maxHeartbeats 1000000 in
theorem c_seekNext (l : Launch) (g : ot_G) (ln : Nat) (ext : ot_L) (μ : ot_M) (op arg lw lf lt : Int → Int) (t pp : Int) (hG : gPin (μ 1 11) (μ 1 12) (μ 2) (μ 3)) (hCh : gChd (μ 1 11) (μ 1 12) (μ 2) (μ 3) (μ 38) (μ 39)) (hW : gWnd (μ 1 12) (μ 8) (μ 7)) (hCl : gClo (μ 1 11) (μ 2) (μ 3) (μ 8) (μ 7) (μ 6) (μ 34) (μ 35)) (hL : gLaw (μ 13) (μ 14) (μ 15) (μ 12 4) op arg lw lf lt) (hs : gShd (μ 6)) (hw : ∀ k, 0 ≤ k → k < 64 → 0 ≤ μ 5 k ∧ μ 5 k ≤ 9) (hF : ∀ q, 0 ≤ q → q < 4 → gFar (μ 4) (μ 34) q) (ht : 0 ≤ t ∧ t < 3) (hp4 : 0 ≤ pp ∧ pp < 4) : ot_C l g yX7_seekNext cX7_seekNext 7 none 4 0 0 [.inr 40, .inl t, .inl pp] (LL ln ext) μ (ot_pv (fun L2 μ2 => L2 = LL ln ext ∧ eqx [38, 39, 36, 16, 40] μ μ2 ∧ gChd (μ 1 11) (μ 1 12) (μ 2) (μ 3) (μ2 38) (μ2 39) ∧ (μ2 40 2, μ2 40 5) = nextS op arg lw lf lt (μ 12 4) (μ 1 11) (μ 1 12) (μ 2) (μ 3) (μ 6) (μ 5) (μ 4) pp t (μ 8) (μ 7) ∧ (-1 ≤ μ2 40 2 ∧ μ2 40 2 < μ 1 12) ∧ (-41472 ≤ μ2 40 5 ∧ μ2 40 5 ≤ 41472))) := by
  refine ot_enter (by decide) (Nat.le_of_ble_eq_true rfl) ?_
  intro p e s m args below meth c X hr
  have hNn := hG.2.1
  have hWt := hW t ht.1 ht.2
  have hst := hs t ht.1 ht.2
  obtain ⟨may, hmay⟩ : ∃ may, may = fun q => mayS op arg lw lf lt (μ 12 4) (μ 2) (μ 3) (μ 8) (μ 7) (μ 6) t q := ⟨_, rfl⟩
  have hmq : ∀ q, may q = mayS op arg lw lf lt (μ 12 4) (μ 2) (μ 3) (μ 8) (μ 7) (μ 6) t q := fun q => by rw [hmay]
  obtain ⟨gain, hgain⟩ : ∃ gain, gain = gnS (μ 1 11) (μ 2) (μ 3) (μ 6) (μ 5) (μ 4) pp t (μ 8) (μ 7) := ⟨_, rfl⟩
  have hgq : ∀ q, gain q = gnS (μ 1 11) (μ 2) (μ 3) (μ 6) (μ 5) (μ 4) pp t (μ 8) (μ 7) q := fun q => by rw [hgain]
  refine tt_aload_n X rfl dX7_seekNext_0 ?_
  refine tt_iconst X dX7_seekNext_1 ?_
  refine tt_puti X fX7_19 kc_7 (k_40 _ _) (by decide) (fun q hq => by cases hq; rfl) rfl dX7_seekNext_2 ?_
  refine tt_aload_n X rfl dX7_seekNext_5 ?_
  refine tt_iconst X dX7_seekNext_6 ?_
  refine tt_puti X fX7_23 kc_7 (k_40 _ _) (by decide) (fun q hq => by cases hq; rfl) rfl dX7_seekNext_7 ?_
  refine tt_aload_n X rfl dX7_seekNext_10 ?_
  refine tt_getr X fX7_9 (k_40 _ _) (by decide) ⟨nofun, nofun⟩ rfl dX7_seekNext_11 ?_
  refine tt_iload_n X rfl dX7_seekNext_14 ?_
  refine tt_vi X rfl mX7_26 (c_lastPin l g ln ext _ _ (by omega) (by (try simp (disch := decide) only [ot_rd, ot_rs, ot_rf, ot_ucd, ot_ucs, ot_rdf]); have := (hW t (by omega) (by omega)).1; omega)) (k_1 _ _) ⟨_, rfl, rfl⟩ rfl rfl (Nat.le_of_ble_eq_true rfl) (by decide) (by decide) (by decide) dX7_seekNext_15 (fun z15 L15 μ15 hp => ?_)
  obtain ⟨rfl, e15, hz15⟩ := hp
  replace e15 := e15.symm
  subst e15
  simp (disch := decide) only [ot_rd, ot_rs, ot_rf, ot_ucd, ot_ucs, ot_rdf] at hz15
  have hfr : z15 = -1 ∧ μ 8 t = 0 ∨ (z15 = μ 7 (120 * t + (μ 8 t - 1)) ∧ 1 ≤ μ 8 t ∧ 0 ≤ z15 ∧ z15 < μ 1 12) := by
    have hWt := hW t (by omega) (by omega)
    by_cases w : 1 ≤ μ 8 t
    · right
      have h2 := hWt.2.1 (μ 8 t - 1) (by omega) (by omega)
      rw [if_pos w, show t * 120 + (μ 8 t - 1) = 120 * t + (μ 8 t - 1) by omega] at hz15
      rw [hz15]; exact ⟨rfl, w, h2⟩
    · left
      rw [if_neg w] at hz15; exact ⟨hz15, by omega⟩
  refine tt_istore_n X dX7_seekNext_18 (by decide) ?_
  refine tt_iload_n X rfl dX7_seekNext_19 ?_
  refine tt_iconst X dX7_seekNext_20 ?_
  refine tt_icmp_ne X 25 (by first | omega | (simp (disch := decide) only [ot_rd, ot_rs, ot_rf, ot_ucd, ot_ucs]; omega)) dX7_seekNext_21 (by decide) (fun b21 => ?_) (fun b21 => ?_)
  · have hz15e : z15 = μ 7 (120 * t + (μ 8 t - 1)) := by omega
    refine tt_iconst X dX7_seekNext_25 ?_
    refine tt_istore X dX7_seekNext_26 (by decide) ?_
    refine tt_loc [(0, _), (1, _), (2, _), (3, _), (4, _)] ⟨rfl, rfl, rfl, rfl, rfl, trivial⟩ ?_
    refine tt_loop (α := ot_M × Int) (fun ((σ, i)) => (μ 1 12 - i).toNat) (fun ((σ, i)) => (0 ≤ i ∧ i ≤ μ 1 12) ∧ eqx [38, 39, 36, 16, 40] μ σ ∧ gChd (μ 1 11) (μ 1 12) (μ 2) (μ 3) (σ 38) (σ 39) ∧ (σ 40 2, σ 40 5) = nxS may gain i.toNat ∧ (-1 ≤ σ 40 2 ∧ σ 40 2 < i) ∧ (-41472 ≤ σ 40 5 ∧ σ 40 5 ≤ 41472)) (fun ((σ, i)) => σ) (fun ((σ, i)) => [(0, .inr 40), (1, .inl t), (2, .inl pp), (3, .inl z15), (4, .inl i)]) (ot_up (ot_up μ 40 2 (-1)) 40 5 0, 0) ⟨by show 0 ≤ (0 : Int) ∧ (0 : Int) ≤ μ 1 12; omega, eqx_up (eqx_up (eqx_rfl _ _) (by decide)) (by decide), by simp (disch := decide) only [ot_rd, ot_rs, ot_rf, ot_ucd, ot_ucs, ot_rdf]; exact hCh, by simp (disch := decide) only [ot_rd, ot_rs, ot_rf, ot_ucd, ot_ucs, ot_rdf]; rfl, by simp (disch := decide) only [ot_rd, ot_rs, ot_rf, ot_ucd, ot_ucs, ot_rdf]; omega, by simp (disch := decide) only [ot_rd, ot_rs, ot_rf, ot_ucd, ot_ucs, ot_rdf]; omega⟩ ?_
    intro a hI ih
    obtain ⟨σ, i⟩ := a
    try dsimp only at hI ih ⊢
    replace hI : (0 ≤ i ∧ i ≤ μ 1 12) ∧ eqx [38, 39, 36, 16, 40] μ σ ∧ gChd (μ 1 11) (μ 1 12) (μ 2) (μ 3) (σ 38) (σ 39) ∧ (σ 40 2, σ 40 5) = nxS may gain i.toNat ∧ (-1 ≤ σ 40 2 ∧ σ 40 2 < i) ∧ (-41472 ≤ σ 40 5 ∧ σ 40 5 ≤ 41472) := hI
    have hi := hI.1
    have he : ∀ k, k ∉ [38, 39, 36, 16, 40] → σ k = μ k := hI.2.1
    have hb2 := hI.2.2.2.2.1
    have hb5 := hI.2.2.2.2.2
    refine tt_iload X rfl dX7_seekNext_28 ?_
    refine tt_aload_n X rfl dX7_seekNext_30 ?_
    refine tt_getr X fX7_9 (k_40 _ _) (by decide) ⟨nofun, nofun⟩ rfl dX7_seekNext_31 ?_
    refine tt_geti X fX7_32 (k_1 _ _) (by decide) (Or.inl rfl) dX7_seekNext_34 ?_
    try simp (disch := decide) only [ot_rd, ot_rs, ot_rf, ot_ucd, ot_ucs, he]
    refine tt_icmp_ge X 124 (by first | omega | (simp (disch := decide) only [ot_rd, ot_rs, ot_rf, ot_ucd, ot_ucs, he]; omega)) dX7_seekNext_37 (by decide) (fun b37 => ?_) (fun b37 => ?_)
    · refine tt_vret X ⟨hr.1, hr.2.1⟩ (by decide) (by decide) dX7_seekNext_124 ?_
      refine ⟨rfl, hI.2.1, hI.2.2.1, ?_, by omega, hb5⟩
      rw [hI.2.2.2.1]
      unfold nextS
      rw [if_neg (by omega), hmay, hgain, show i = μ 1 12 by omega]
    · refine tt_aload_n X rfl dX7_seekNext_40 ?_
      refine tt_getr X fX7_15 (k_40 _ _) (by decide) ⟨nofun, nofun⟩ rfl dX7_seekNext_41 ?_
      refine tt_iload_n X rfl dX7_seekNext_44 ?_
      refine tt_iload X rfl dX7_seekNext_45 ?_
      refine tt_vi X rfl mX7_35 (c_mayGo l g ln ext _ op arg lw lf lt _ _ (by simp (disch := decide) only [ot_rd, ot_rs, ot_rf, ot_ucd, ot_ucs, ot_rdf, he]; exact hG) (by simp (disch := decide) only [ot_rd, ot_rs, ot_rf, ot_ucd, ot_ucs, ot_rdf, he]; exact hW) (by simp (disch := decide) only [ot_rd, ot_rs, ot_rf, ot_ucd, ot_ucs, ot_rdf, he]; exact hCl) (by simp (disch := decide) only [ot_rd, ot_rs, ot_rf, ot_ucd, ot_ucs, ot_rdf, he]; exact hs) (by simp (disch := decide) only [ot_rd, ot_rs, ot_rf, ot_ucd, ot_ucs, ot_rdf, he]; exact hL) (by omega) (by simp (disch := decide) only [ot_rd, ot_rs, ot_rf, ot_ucd, ot_ucs, ot_rdf, he]; omega)) (k_33 _ _) ⟨_, rfl, rfl⟩ rfl rfl (Nat.le_of_ble_eq_true rfl) (by decide) (by decide) (by decide) dX7_seekNext_47 (fun z47 L47 μ47 hp => ?_)
      obtain ⟨rfl, hz47, f47, S47, rfl⟩ := hp
      simp (disch := decide) only [ot_rd, ot_rs, ot_rf, ot_ucd, ot_ucs, ot_rdf, he] at hz47
      have hmb := mayS_bool (op := op) (arg := arg) (lw := lw) (lf := lf) (lt := lt) (m := μ 12 4) (px := μ 2) (py := μ 3) (cnt := μ 8) (row := μ 7) (sh := μ 6) (t := t) (q := i)
      rw [← hmq] at hz47 hmb
      refine tt_if_eq X 118 (by first | omega | (simp (disch := decide) only [ot_rd, ot_rs, ot_rf, ot_ucd, ot_ucs, he]; omega)) dX7_seekNext_50 (by decide) (fun b50 => ?_) (fun b50 => ?_)
      · refine tt_iinc X dX7_seekNext_118 rfl (by decide) ?_
        refine tt_goto X 28 dX7_seekNext_121 (by decide) ?_
        refine tt_loc [(0, _), (1, _), (2, _), (3, _), (4, _)] ⟨rfl, rfl, rfl, rfl, rfl, trivial⟩ ?_
        have e := nxS_toNat may gain hi.1
        rw [← hI.2.2.2.1] at e
        replace e : nxS may gain (i + 1).toNat = if may i = 1 ∧ (σ 40 2 = -1 ∨ σ 40 5 < gain i) then (i, gain i) else (σ 40 2, σ 40 5) := e
        refine tt_gen (fun σ2 hσ => ?_)
        have q1 : eqx [38, 39, 36, 16, 40] μ σ2 := by
          rw [hσ]
          repeat first | exact hI.2.1 | refine eqx_uc ?_ (by decide) | refine eqx_up ?_ (by decide)
        have q2 : gChd (μ 1 11) (μ 1 12) (μ 2) (μ 3) (σ2 38) (σ2 39) := by
          rw [hσ]
          simp (disch := decide) only [ot_rd, ot_rs, ot_rf, ot_ucd, ot_ucs, ot_rdf]
          first | exact hI.2.2.1 | exact hC63
        have q3 : (may i = 1 ∧ (σ 40 2 = -1 ∨ σ 40 5 < gain i)) ∧ σ2 40 2 = i ∧ σ2 40 5 = gain i ∧ (-41472 ≤ gain i ∧ gain i ≤ 41472) ∨ ¬ (may i = 1 ∧ (σ 40 2 = -1 ∨ σ 40 5 < gain i)) ∧ σ2 40 2 = σ 40 2 ∧ σ2 40 5 = σ 40 5 := by
          first
            | (refine Or.inr ⟨by omega, ?_, ?_⟩ <;> rw [hσ] <;> simp (disch := decide) only [ot_rd, ot_rs, ot_rf, ot_ucd, ot_ucs, ot_rdf]; done)
            | (refine Or.inl ⟨by omega, ?_, ?_, ?_⟩
               · rw [hσ]; simp (disch := decide) only [ot_rd, ot_rs, ot_rf, ot_ucd, ot_ucs, ot_rdf]
               · rw [hσ, ← hg84]; simp (disch := decide) only [ot_rd, ot_rs, ot_rf, ot_ucd, ot_ucs, ot_rdf]
               · rw [← hg84]; exact hgb)
        refine ih (σ2, i + 1) ⟨by show 0 ≤ i + 1 ∧ i + 1 ≤ μ 1 12; omega, q1, q2, ?_, ?_, ?_⟩ (by show (μ 1 12 - (i + 1)).toNat < (μ 1 12 - i).toNat; omega)
        · show (σ2 40 2, σ2 40 5) = nxS may gain (i + 1).toNat
          rw [e]
          rcases q3 with w | w
          · rw [if_pos w.1, w.2.1, w.2.2.1]
          · rw [if_neg w.1, w.2.1, w.2.2]
        · show -1 ≤ σ2 40 2 ∧ σ2 40 2 < i + 1
          omega
        · show -41472 ≤ σ2 40 5 ∧ σ2 40 5 ≤ 41472
          omega
      · have hm1 : may i = 1 := by omega
        have hcan := mayS_can (by rw [← hmq]; exact hm1)
        refine tt_aload_n X rfl dX7_seekNext_53 ?_
        refine tt_getr X fX7_15 (k_40 _ _) (by decide) ⟨nofun, nofun⟩ rfl dX7_seekNext_54 ?_
        refine tt_getr X fX7_41 (k_33 _ _) (by decide) ⟨nofun, nofun⟩ rfl dX7_seekNext_57 ?_
        refine tt_iload_n X rfl dX7_seekNext_60 ?_
        refine tt_iload X rfl dX7_seekNext_61 ?_
        refine tt_vi X rfl mX7_45 (c_measured l g ln ext _ _ _ (by simp (disch := decide) only [ot_rd, ot_rs, ot_rf, ot_ucd, ot_ucs, ot_rdf, he]; exact hG) (by simp (disch := decide) only [ot_rd, ot_rs, ot_rf, ot_ucd, ot_ucs, ot_rdf, he]; exact hI.2.2.1) (by simp (disch := decide) only [ot_rd, ot_rs, ot_rf, ot_ucd, ot_ucs, ot_rdf, he]; omega) (by simp (disch := decide) only [ot_rd, ot_rs, ot_rf, ot_ucd, ot_ucs, ot_rdf, he]; omega) (by omega)) (k_37 _ _) ⟨_, rfl, rfl⟩ rfl rfl (Nat.le_of_ble_eq_true rfl) (by decide) (by decide) (by decide) dX7_seekNext_63 (fun z63 L63 μ63 hp => ?_)
        obtain ⟨rfl, hz63, f63, z63b, rfl, hC63, hrow⟩ := hp
        simp (disch := decide) only [ot_rd, ot_rs, ot_rf, ot_ucd, ot_ucs, ot_rdf, he] at hC63 hrow
        refine tt_istore X dX7_seekNext_66 (by decide) ?_
        refine tt_aload_n X rfl dX7_seekNext_68 ?_
        refine tt_getr X fX7_15 (k_40 _ _) (by decide) ⟨nofun, nofun⟩ rfl dX7_seekNext_69 ?_
        refine tt_iload_n X rfl dX7_seekNext_72 ?_
        refine tt_iload X rfl dX7_seekNext_73 ?_
        refine tt_aload_n X rfl dX7_seekNext_75 ?_
        refine tt_getr X fX7_9 (k_40 _ _) (by decide) ⟨nofun, nofun⟩ rfl dX7_seekNext_76 ?_
        refine tt_getr X fX7_51 (k_1 _ _) (by decide) ⟨nofun, nofun⟩ rfl dX7_seekNext_79 ?_
        refine tt_iload_n X rfl dX7_seekNext_82 ?_
        refine tt_iaload X (k_6 _ _) (by first | omega | (simp (disch := decide) only [ot_rd, ot_rs, ot_rf, ot_ucd, ot_ucs, he]; omega)) dX7_seekNext_83 ?_
        try simp (disch := decide) only [ot_rd, ot_rs, ot_rf, ot_ucd, ot_ucs, he]
        refine tt_vi X rfl mX7_55 (c_gainBy l g ln ext _ _ _ _ z15 i (by omega) (by rw [hz63]; exact chN_in (by omega) (by omega) (by omega)) (by (try simp (disch := decide) only [ot_rd, ot_rs, ot_rf, ot_ucd, ot_ucs, ot_rdf, he]); omega) (by simp (disch := decide) only [ot_rd, ot_rs, ot_rf, ot_ucd, ot_ucs, ot_rdf, he]; exact hF pp hp4.1 hp4.2) (by simp (disch := decide) only [ot_rd, ot_rs, ot_rf, ot_ucd, ot_ucs, ot_rdf, he]; rw [hz63]; exact hrow)) (k_33 _ _) ⟨_, rfl, rfl⟩ rfl rfl (Nat.le_of_ble_eq_true rfl) (by decide) (by decide) (by decide) dX7_seekNext_84 (fun z84 L84 μ84 hp => ?_)
        obtain ⟨rfl, e84, hz84⟩ := hp
        replace e84 := e84.symm
        subst e84
        simp (disch := decide) only [ot_rd, ot_rs, ot_rf, ot_ucd, ot_ucs, ot_rdf, he] at hz84
        have hg84 : z84 = gain i := by
          rw [hz84, hgq, hz15e]
          exact gainS_congr (fun k k1 k2 => ⟨rfl, rfl, hCl.1 k k1 k2, rfl⟩)
        have hgb := gnS_bd (pic := pp) (want := μ 4) hG hw hst (cnt := μ 8) (row := μ 7) (t := t) (q := i) (by omega) (by omega) (by omega)
        rw [← hgq, ← hg84] at hgb
        refine tt_istore X dX7_seekNext_87 (by decide) ?_
        refine tt_aload_n X rfl dX7_seekNext_89 ?_
        refine tt_geti X fX7_19 (k_40 _ _) (by decide) (Or.inl rfl) dX7_seekNext_90 ?_
        try simp (disch := decide) only [ot_rd, ot_rs, ot_rf, ot_ucd, ot_ucs, he]
        refine tt_iconst X dX7_seekNext_93 ?_
        refine tt_icmp_eq X 106 (by first | omega | (simp (disch := decide) only [ot_rd, ot_rs, ot_rf, ot_ucd, ot_ucs, he]; omega)) dX7_seekNext_94 (by decide) (fun b94 => ?_) (fun b94 => ?_)
        · refine tt_aload_n X rfl dX7_seekNext_106 ?_
          refine tt_iload X rfl dX7_seekNext_107 ?_
          refine tt_puti X fX7_19 kc_7 (k_40 _ _) (by decide) (fun q hq => by cases hq; rfl) rfl dX7_seekNext_109 ?_
          refine tt_aload_n X rfl dX7_seekNext_112 ?_
          refine tt_iload X rfl dX7_seekNext_113 ?_
          refine tt_puti X fX7_23 kc_7 (k_40 _ _) (by decide) (fun q hq => by cases hq; rfl) rfl dX7_seekNext_115 ?_
          refine tt_iinc X dX7_seekNext_118 rfl (by decide) ?_
          refine tt_goto X 28 dX7_seekNext_121 (by decide) ?_
          refine tt_loc [(0, _), (1, _), (2, _), (3, _), (4, _)] ⟨rfl, rfl, rfl, rfl, rfl, trivial⟩ ?_
          have e := nxS_toNat may gain hi.1
          rw [← hI.2.2.2.1] at e
          replace e : nxS may gain (i + 1).toNat = if may i = 1 ∧ (σ 40 2 = -1 ∨ σ 40 5 < gain i) then (i, gain i) else (σ 40 2, σ 40 5) := e
          refine tt_gen (fun σ2 hσ => ?_)
          have q1 : eqx [38, 39, 36, 16, 40] μ σ2 := by
            rw [hσ]
            repeat first | exact hI.2.1 | refine eqx_uc ?_ (by decide) | refine eqx_up ?_ (by decide)
          have q2 : gChd (μ 1 11) (μ 1 12) (μ 2) (μ 3) (σ2 38) (σ2 39) := by
            rw [hσ]
            simp (disch := decide) only [ot_rd, ot_rs, ot_rf, ot_ucd, ot_ucs, ot_rdf]
            first | exact hI.2.2.1 | exact hC63
          have q3 : (may i = 1 ∧ (σ 40 2 = -1 ∨ σ 40 5 < gain i)) ∧ σ2 40 2 = i ∧ σ2 40 5 = gain i ∧ (-41472 ≤ gain i ∧ gain i ≤ 41472) ∨ ¬ (may i = 1 ∧ (σ 40 2 = -1 ∨ σ 40 5 < gain i)) ∧ σ2 40 2 = σ 40 2 ∧ σ2 40 5 = σ 40 5 := by
            first
              | (refine Or.inr ⟨by omega, ?_, ?_⟩ <;> rw [hσ] <;> simp (disch := decide) only [ot_rd, ot_rs, ot_rf, ot_ucd, ot_ucs, ot_rdf]; done)
              | (refine Or.inl ⟨by omega, ?_, ?_, ?_⟩
                 · rw [hσ]; simp (disch := decide) only [ot_rd, ot_rs, ot_rf, ot_ucd, ot_ucs, ot_rdf]
                 · rw [hσ, ← hg84]; simp (disch := decide) only [ot_rd, ot_rs, ot_rf, ot_ucd, ot_ucs, ot_rdf]
                 · rw [← hg84]; exact hgb)
          refine ih (σ2, i + 1) ⟨by show 0 ≤ i + 1 ∧ i + 1 ≤ μ 1 12; omega, q1, q2, ?_, ?_, ?_⟩ (by show (μ 1 12 - (i + 1)).toNat < (μ 1 12 - i).toNat; omega)
          · show (σ2 40 2, σ2 40 5) = nxS may gain (i + 1).toNat
            rw [e]
            rcases q3 with w | w
            · rw [if_pos w.1, w.2.1, w.2.2.1]
            · rw [if_neg w.1, w.2.1, w.2.2]
          · show -1 ≤ σ2 40 2 ∧ σ2 40 2 < i + 1
            omega
          · show -41472 ≤ σ2 40 5 ∧ σ2 40 5 ≤ 41472
            omega
        · refine tt_iload X rfl dX7_seekNext_97 ?_
          refine tt_aload_n X rfl dX7_seekNext_99 ?_
          refine tt_geti X fX7_23 (k_40 _ _) (by decide) (Or.inl rfl) dX7_seekNext_100 ?_
          try simp (disch := decide) only [ot_rd, ot_rs, ot_rf, ot_ucd, ot_ucs, he]
          refine tt_icmp_le X 118 (by first | omega | (simp (disch := decide) only [ot_rd, ot_rs, ot_rf, ot_ucd, ot_ucs, he]; omega)) dX7_seekNext_103 (by decide) (fun b103 => ?_) (fun b103 => ?_)
          · refine tt_iinc X dX7_seekNext_118 rfl (by decide) ?_
            refine tt_goto X 28 dX7_seekNext_121 (by decide) ?_
            refine tt_loc [(0, _), (1, _), (2, _), (3, _), (4, _)] ⟨rfl, rfl, rfl, rfl, rfl, trivial⟩ ?_
            have e := nxS_toNat may gain hi.1
            rw [← hI.2.2.2.1] at e
            replace e : nxS may gain (i + 1).toNat = if may i = 1 ∧ (σ 40 2 = -1 ∨ σ 40 5 < gain i) then (i, gain i) else (σ 40 2, σ 40 5) := e
            refine tt_gen (fun σ2 hσ => ?_)
            have q1 : eqx [38, 39, 36, 16, 40] μ σ2 := by
              rw [hσ]
              repeat first | exact hI.2.1 | refine eqx_uc ?_ (by decide) | refine eqx_up ?_ (by decide)
            have q2 : gChd (μ 1 11) (μ 1 12) (μ 2) (μ 3) (σ2 38) (σ2 39) := by
              rw [hσ]
              simp (disch := decide) only [ot_rd, ot_rs, ot_rf, ot_ucd, ot_ucs, ot_rdf]
              first | exact hI.2.2.1 | exact hC63
            have q3 : (may i = 1 ∧ (σ 40 2 = -1 ∨ σ 40 5 < gain i)) ∧ σ2 40 2 = i ∧ σ2 40 5 = gain i ∧ (-41472 ≤ gain i ∧ gain i ≤ 41472) ∨ ¬ (may i = 1 ∧ (σ 40 2 = -1 ∨ σ 40 5 < gain i)) ∧ σ2 40 2 = σ 40 2 ∧ σ2 40 5 = σ 40 5 := by
              first
                | (refine Or.inr ⟨by omega, ?_, ?_⟩ <;> rw [hσ] <;> simp (disch := decide) only [ot_rd, ot_rs, ot_rf, ot_ucd, ot_ucs, ot_rdf]; done)
                | (refine Or.inl ⟨by omega, ?_, ?_, ?_⟩
                   · rw [hσ]; simp (disch := decide) only [ot_rd, ot_rs, ot_rf, ot_ucd, ot_ucs, ot_rdf]
                   · rw [hσ, ← hg84]; simp (disch := decide) only [ot_rd, ot_rs, ot_rf, ot_ucd, ot_ucs, ot_rdf]
                   · rw [← hg84]; exact hgb)
            refine ih (σ2, i + 1) ⟨by show 0 ≤ i + 1 ∧ i + 1 ≤ μ 1 12; omega, q1, q2, ?_, ?_, ?_⟩ (by show (μ 1 12 - (i + 1)).toNat < (μ 1 12 - i).toNat; omega)
            · show (σ2 40 2, σ2 40 5) = nxS may gain (i + 1).toNat
              rw [e]
              rcases q3 with w | w
              · rw [if_pos w.1, w.2.1, w.2.2.1]
              · rw [if_neg w.1, w.2.1, w.2.2]
            · show -1 ≤ σ2 40 2 ∧ σ2 40 2 < i + 1
              omega
            · show -41472 ≤ σ2 40 5 ∧ σ2 40 5 ≤ 41472
              omega
          · refine tt_aload_n X rfl dX7_seekNext_106 ?_
            refine tt_iload X rfl dX7_seekNext_107 ?_
            refine tt_puti X fX7_19 kc_7 (k_40 _ _) (by decide) (fun q hq => by cases hq; rfl) rfl dX7_seekNext_109 ?_
            refine tt_aload_n X rfl dX7_seekNext_112 ?_
            refine tt_iload X rfl dX7_seekNext_113 ?_
            refine tt_puti X fX7_23 kc_7 (k_40 _ _) (by decide) (fun q hq => by cases hq; rfl) rfl dX7_seekNext_115 ?_
            refine tt_iinc X dX7_seekNext_118 rfl (by decide) ?_
            refine tt_goto X 28 dX7_seekNext_121 (by decide) ?_
            refine tt_loc [(0, _), (1, _), (2, _), (3, _), (4, _)] ⟨rfl, rfl, rfl, rfl, rfl, trivial⟩ ?_
            have e := nxS_toNat may gain hi.1
            rw [← hI.2.2.2.1] at e
            replace e : nxS may gain (i + 1).toNat = if may i = 1 ∧ (σ 40 2 = -1 ∨ σ 40 5 < gain i) then (i, gain i) else (σ 40 2, σ 40 5) := e
            refine tt_gen (fun σ2 hσ => ?_)
            have q1 : eqx [38, 39, 36, 16, 40] μ σ2 := by
              rw [hσ]
              repeat first | exact hI.2.1 | refine eqx_uc ?_ (by decide) | refine eqx_up ?_ (by decide)
            have q2 : gChd (μ 1 11) (μ 1 12) (μ 2) (μ 3) (σ2 38) (σ2 39) := by
              rw [hσ]
              simp (disch := decide) only [ot_rd, ot_rs, ot_rf, ot_ucd, ot_ucs, ot_rdf]
              first | exact hI.2.2.1 | exact hC63
            have q3 : (may i = 1 ∧ (σ 40 2 = -1 ∨ σ 40 5 < gain i)) ∧ σ2 40 2 = i ∧ σ2 40 5 = gain i ∧ (-41472 ≤ gain i ∧ gain i ≤ 41472) ∨ ¬ (may i = 1 ∧ (σ 40 2 = -1 ∨ σ 40 5 < gain i)) ∧ σ2 40 2 = σ 40 2 ∧ σ2 40 5 = σ 40 5 := by
              first
                | (refine Or.inr ⟨by omega, ?_, ?_⟩ <;> rw [hσ] <;> simp (disch := decide) only [ot_rd, ot_rs, ot_rf, ot_ucd, ot_ucs, ot_rdf]; done)
                | (refine Or.inl ⟨by omega, ?_, ?_, ?_⟩
                   · rw [hσ]; simp (disch := decide) only [ot_rd, ot_rs, ot_rf, ot_ucd, ot_ucs, ot_rdf]
                   · rw [hσ, ← hg84]; simp (disch := decide) only [ot_rd, ot_rs, ot_rf, ot_ucd, ot_ucs, ot_rdf]
                   · rw [← hg84]; exact hgb)
            refine ih (σ2, i + 1) ⟨by show 0 ≤ i + 1 ∧ i + 1 ≤ μ 1 12; omega, q1, q2, ?_, ?_, ?_⟩ (by show (μ 1 12 - (i + 1)).toNat < (μ 1 12 - i).toNat; omega)
            · show (σ2 40 2, σ2 40 5) = nxS may gain (i + 1).toNat
              rw [e]
              rcases q3 with w | w
              · rw [if_pos w.1, w.2.1, w.2.2.1]
              · rw [if_neg w.1, w.2.1, w.2.2]
            · show -1 ≤ σ2 40 2 ∧ σ2 40 2 < i + 1
              omega
            · show -41472 ≤ σ2 40 5 ∧ σ2 40 5 ≤ 41472
              omega
  · refine tt_vret X ⟨hr.1, hr.2.1⟩ (by decide) (by decide) dX7_seekNext_24 ?_
    refine ⟨rfl, eqx_up (eqx_up (eqx_rfl _ _) (by decide)) (by decide), by simp (disch := decide) only [ot_rd, ot_rs, ot_rf, ot_ucd, ot_ucs, ot_rdf]; exact hCh, ?_, by simp (disch := decide) only [ot_rd, ot_rs, ot_rf, ot_ucd, ot_ucs, ot_rdf]; omega, by simp (disch := decide) only [ot_rd, ot_rs, ot_rf, ot_ucd, ot_ucs, ot_rdf]; omega⟩
    simp (disch := decide) only [ot_rd, ot_rs, ot_rf, ot_ucd, ot_ucs, ot_rdf]
    unfold nextS
    rw [if_pos (by omega)]

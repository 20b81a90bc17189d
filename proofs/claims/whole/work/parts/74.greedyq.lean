theorem dk_push {S t q k : Int} {px py cnt row sh : Int → Int} (ht : 0 ≤ t ∧ t < 3) (hb : ∀ u, 0 ≤ u → u < 3 → 0 ≤ cnt u ∧ cnt u ≤ 120) (hc : 0 ≤ cnt t ∧ cnt t < 120) : dk S px py (up1 cnt t (cnt t + 1)) (up1 row (120 * t + cnt t) q) sh k = dk S px py cnt row sh k + (if cnt t = 0 then 0 else sh t * smp S px py (row (120 * t + (cnt t - 1))) q k) := by
  rw [dk_w, dk_w, wsum_push ht hb hc]
set_option maxRecDepth 100000 in
set_option maxHeartbeats 1000000 in
theorem q_greedy (l : Launch) (g : ot_G) (ln : Nat) (ext : ot_L) (μ : ot_M) (h0 : μ 60 0 = 0) (t pp nn w G1 : Int) (Gc Gr : Int → Int) (nx : (Int → Int) → (Int → Int) → Int × Int) (hnx : nx = (fun cnt row => nextS (μ 77) (μ 78) (μ 74) (μ 75) (μ 76) (μ 60 23) (μ 60 1) (μ 60 2) (μ 61) (μ 62) (μ 63) (fun k => μ 67 k + 1) (μ 66) pp t cnt row)) (hGG : (G1, Gc, Gr) = grS nx t nn.toNat (μ 64) (μ 65)) (ht : -2147483648 ≤ t ∧ t ≤ 2147483647) (hpp : -2147483648 ≤ pp ∧ pp ≤ 2147483647) (hnn : -2147483648 ≤ nn ∧ nn ≤ 2147483647) (hw : -2147483648 ≤ w ∧ w ≤ 2147483647)(hG : gPin (μ 60 1) (μ 60 2) (μ 61) (μ 62)) (hW : gWnd (μ 60 2) (μ 64) (μ 65)) (hL : gLawQ (μ 60 23) (μ 77) (μ 78) (μ 74) (μ 75) (μ 76)) (hs : gShd (μ 63)) (hw0 : ∀ k, 0 ≤ k → k < 64 → 0 ≤ μ 67 k + 1 ∧ μ 67 k + 1 ≤ 9) (hWn : gWnt (μ 60 1) (μ 66))  : ot_C l g yX10_greedy cX10_greedy 10 (some .int) 5 0 0 [.inr 60, .inl t, .inl pp, .inl nn, .inl w] (LL ln ext) μ (ot_pi (fun r L2 μ2 => L2 = LL ln ext ∧ ((((0 ≤ t ∧ t < 3) ∧ (0 ≤ pp ∧ pp < 4) ∧ (1 ≤ nn ∧ nn ≤ 40) ∧ 0 ≤ w ∧ w ≤ 2) ∧ eqx [82, 83, 80, 81, 60, 65] μ μ2 ∧ (∀ j, j ≠ 41 → μ2 60 j = μ 60 j) ∧ μ2 65 = Gr ∧ r = (if w = 0 then G1 else if w = 1 then farS (fun k => μ 67 k + 1) (μ 66) (dk (μ 60 1) (μ 61) (μ 62) Gc Gr (μ 63)) pp else (if Gc t = 0 then -1 else Gr (120 * t + (Gc t - 1))))) ∨ (¬ ((0 ≤ t ∧ t < 3) ∧ (0 ≤ pp ∧ pp < 4) ∧ (1 ≤ nn ∧ nn ≤ 40) ∧ 0 ≤ w ∧ w ≤ 2) ∧ μ2 = μ ∧ r = -1)))) := by
  refine ot_enter (by decide) (Nat.le_of_ble_eq_true rfl) ?_
  intro p e s m args below meth c X hr
  have hS := hG.1
  have hNn := hG.2.1
  refine tt_aload_n X rfl dX10_greedy_0 ?_
  refine tt_iconst X dX10_greedy_1 ?_
  refine tt_puti X fX10_98 kc_10 (k_60 _ _) (by decide) (fun q hq => by cases hq; rfl) rfl dX10_greedy_2 ?_
  refine tt_mem (ot_nop h0) ?_
  refine tt_aload_n X rfl dX10_greedy_5 ?_
  refine tt_iload_n X rfl dX10_greedy_6 ?_
  refine tt_vi X rfl mX10_125 (q_isThread l g ln ext _ _ (by first | omega | (simp (disch := decide) only [ot_rd, ot_rs, ot_rf, ot_ucd, ot_ucs]; omega))) (k_60 _ _) ⟨_, rfl, rfl⟩ rfl rfl (Nat.le_of_ble_eq_true rfl) (by decide) (by decide) (by decide) dX10_greedy_7 (fun z7 L7 μ7 hp => ?_)
  obtain ⟨rfl, e7, hz7⟩ := hp
  replace e7 := e7.symm
  subst e7
  refine tt_if_eq X 43 (by first | omega | (simp (disch := decide) only [ot_rd, ot_rs, ot_rf, ot_ucd, ot_ucs]; omega)) dX10_greedy_10 (by decide) (fun b10 => ?_) (fun b10 => ?_)
  · refine tt_iconst X dX10_greedy_43 ?_
    refine tt_iret X ⟨hr.1, hr.2.1⟩ (by decide) (by decide) dX10_greedy_44 ?_
    exact ⟨rfl, Or.inr ⟨by omega, rfl, rfl⟩⟩
  · refine tt_aload_n X rfl dX10_greedy_13 ?_
    refine tt_iload_n X rfl dX10_greedy_14 ?_
    refine tt_vi X rfl mX10_117 (q_isPicture l g ln ext _ _ (by first | omega | (simp (disch := decide) only [ot_rd, ot_rs, ot_rf, ot_ucd, ot_ucs]; omega))) (k_60 _ _) ⟨_, rfl, rfl⟩ rfl rfl (Nat.le_of_ble_eq_true rfl) (by decide) (by decide) (by decide) dX10_greedy_15 (fun z15 L15 μ15 hp => ?_)
    obtain ⟨rfl, e15, hz15⟩ := hp
    replace e15 := e15.symm
    subst e15
    refine tt_if_eq X 43 (by first | omega | (simp (disch := decide) only [ot_rd, ot_rs, ot_rf, ot_ucd, ot_ucs]; omega)) dX10_greedy_18 (by decide) (fun b18 => ?_) (fun b18 => ?_)
    · refine tt_iconst X dX10_greedy_43 ?_
      refine tt_iret X ⟨hr.1, hr.2.1⟩ (by decide) (by decide) dX10_greedy_44 ?_
      exact ⟨rfl, Or.inr ⟨by omega, rfl, rfl⟩⟩
    · refine tt_aload_n X rfl dX10_greedy_21 ?_
      refine tt_iload_n X rfl dX10_greedy_22 ?_
      refine tt_iconst X dX10_greedy_23 ?_
      refine tt_bipush X (by decide) dX10_greedy_24 ?_
      refine tt_vi X rfl mX10_104 (q_isIn l g ln ext _ _ _ _ (by first | omega | (simp (disch := decide) only [ot_rd, ot_rs, ot_rf, ot_ucd, ot_ucs]; omega)) (by first | omega | (simp (disch := decide) only [ot_rd, ot_rs, ot_rf, ot_ucd, ot_ucs]; omega)) (by first | omega | (simp (disch := decide) only [ot_rd, ot_rs, ot_rf, ot_ucd, ot_ucs]; omega))) (k_60 _ _) ⟨_, rfl, rfl⟩ rfl rfl (Nat.le_of_ble_eq_true rfl) (by decide) (by decide) (by decide) dX10_greedy_26 (fun z26 L26 μ26 hp => ?_)
      obtain ⟨rfl, e26, hz26⟩ := hp
      replace e26 := e26.symm
      subst e26
      refine tt_if_eq X 43 (by first | omega | (simp (disch := decide) only [ot_rd, ot_rs, ot_rf, ot_ucd, ot_ucs]; omega)) dX10_greedy_29 (by decide) (fun b29 => ?_) (fun b29 => ?_)
      · refine tt_iconst X dX10_greedy_43 ?_
        refine tt_iret X ⟨hr.1, hr.2.1⟩ (by decide) (by decide) dX10_greedy_44 ?_
        exact ⟨rfl, Or.inr ⟨by omega, rfl, rfl⟩⟩
      · refine tt_aload_n X rfl dX10_greedy_32 ?_
        refine tt_iload X rfl dX10_greedy_33 ?_
        refine tt_iconst X dX10_greedy_35 ?_
        refine tt_iconst X dX10_greedy_36 ?_
        refine tt_vi X rfl mX10_104 (q_isIn l g ln ext _ _ _ _ (by first | omega | (simp (disch := decide) only [ot_rd, ot_rs, ot_rf, ot_ucd, ot_ucs]; omega)) (by first | omega | (simp (disch := decide) only [ot_rd, ot_rs, ot_rf, ot_ucd, ot_ucs]; omega)) (by first | omega | (simp (disch := decide) only [ot_rd, ot_rs, ot_rf, ot_ucd, ot_ucs]; omega))) (k_60 _ _) ⟨_, rfl, rfl⟩ rfl rfl (Nat.le_of_ble_eq_true rfl) (by decide) (by decide) (by decide) dX10_greedy_37 (fun z37 L37 μ37 hp => ?_)
        obtain ⟨rfl, e37, hz37⟩ := hp
        replace e37 := e37.symm
        subst e37
        refine tt_if_ne X 45 (by first | omega | (simp (disch := decide) only [ot_rd, ot_rs, ot_rf, ot_ucd, ot_ucs]; omega)) dX10_greedy_40 (by decide) (fun b40 => ?_) (fun b40 => ?_)
        · refine tt_aload_n X rfl dX10_greedy_45 ?_
          refine tt_getr X fX10_23 (k_60 _ _) (by decide) ⟨nofun, nofun⟩ rfl dX10_greedy_46 ?_
          refine tt_iload_n X rfl dX10_greedy_49 ?_
          refine tt_iaload X (k_64 _ _) (by first | omega | (simp (disch := decide) only [ot_rd, ot_rs, ot_rf, ot_ucd, ot_ucs]; omega)) dX10_greedy_50 ?_
          try simp (disch := decide) only [ot_rd, ot_rs, ot_rf, ot_ucd, ot_ucs]
          refine tt_istore X dX10_greedy_51 (by decide) ?_
          refine tt_aload_n X rfl dX10_greedy_53 ?_
          refine tt_vv X rfl mX10_264 (q_findsDark l g ln ext _ hG hW) (k_60 _ _) ⟨_, rfl, rfl⟩ rfl rfl (Nat.le_of_ble_eq_true rfl) (by decide) (by decide) (by decide) dX10_greedy_54 (fun L54 μ54 hp => ?_)
          obtain ⟨rfl, f, rfl⟩ := hp
          refine tt_iconst X dX10_greedy_57 ?_
          refine tt_istore X dX10_greedy_58 (by decide) ?_
          refine tt_iconst X dX10_greedy_60 ?_
          refine tt_istore X dX10_greedy_61 (by decide) ?_
          have hWt := hW t (by omega) (by omega)
          refine tt_loc [(0, _), (1, _), (2, _), (3, _), (4, _), (5, _), (6, _), (7, _)] ⟨rfl, rfl, rfl, rfl, rfl, rfl, rfl, rfl, trivial⟩ ?_
          refine tt_loop (α := ot_M × Int × Int) (fun ((σ, i, go)) => (nn - i).toNat + go.toNat) (fun ((σ, i, go)) => (0 ≤ i ∧ i ≤ nn) ∧ (go = 0 ∨ go = 1) ∧ eqx [82, 83, 80, 81, 60, 64, 65] μ σ ∧ (∀ j, j ≠ 41 → σ 60 j = μ 60 j) ∧ gWnd (μ 60 2) (σ 64) (σ 65) ∧ (∀ k, 0 ≤ k → k < 64 → σ 83 k = dk (μ 60 1) (μ 61) (μ 62) (σ 64) (σ 65) (μ 63) k) ∧ σ 64 = up1 (μ 64) t (μ 64 t + i) ∧ ((go = 1 ∧ (grS nx t nn.toNat (μ 64) (μ 65)).1 = (grS nx t (nn - i).toNat (σ 64) (σ 65)).1 + i ∧ (grS nx t nn.toNat (μ 64) (μ 65)).2 = (grS nx t (nn - i).toNat (σ 64) (σ 65)).2) ∨ (go = 0 ∧ G1 = i ∧ Gc = σ 64 ∧ Gr = σ 65))) (fun ((σ, i, go)) => σ) (fun ((σ, i, go)) => [(0, .inr 60), (1, .inl t), (2, .inl pp), (3, .inl nn), (4, .inl w), (5, .inl (μ 64 t)), (6, .inl i), (7, .inl go)]) (ot_uc (ot_uc μ 82 f) 83 (wr 64 (μ 83) (dk (μ 60 1) (μ 61) (μ 62) (μ 64) (μ 65) (μ 63))), 0, 1) ⟨by show 0 ≤ (0 : Int) ∧ (0 : Int) ≤ nn; omega, Or.inr rfl, eqx_uc (eqx_uc (eqx_rfl _ _) (by decide)) (by decide), fun j _ => by simp (disch := decide) only [ot_rd, ot_rs, ot_rf, ot_ucd, ot_ucs, ot_rdf], by simp (disch := decide) only [ot_rd, ot_rs, ot_rf, ot_ucd, ot_ucs, ot_rdf]; exact hW, fun k k1 k2 => by simp (disch := decide) only [ot_rd, ot_rs, ot_rf, ot_ucd, ot_ucs, ot_rdf]; exact wr_in ⟨k1, k2⟩, by simp (disch := decide) only [ot_rd, ot_rs, ot_rf, ot_ucd, ot_ucs, ot_rdf]; exact (up1_id (by omega)).symm, Or.inl ⟨rfl, by simp (disch := decide) only [ot_rd, ot_rs, ot_rf, ot_ucd, ot_ucs, ot_rdf]; rw [Int.sub_zero]; show _ = _ + 0; omega, by simp (disch := decide) only [ot_rd, ot_rs, ot_rf, ot_ucd, ot_ucs, ot_rdf]; rw [Int.sub_zero]⟩⟩ ?_
          intro a hI ih
          obtain ⟨σ, i, go⟩ := a
          try dsimp only at hI ih ⊢
          replace hI : (0 ≤ i ∧ i ≤ nn) ∧ (go = 0 ∨ go = 1) ∧ eqx [82, 83, 80, 81, 60, 64, 65] μ σ ∧ (∀ j, j ≠ 41 → σ 60 j = μ 60 j) ∧ gWnd (μ 60 2) (σ 64) (σ 65) ∧ (∀ k, 0 ≤ k → k < 64 → σ 83 k = dk (μ 60 1) (μ 61) (μ 62) (σ 64) (σ 65) (μ 63) k) ∧ σ 64 = up1 (μ 64) t (μ 64 t + i) ∧ ((go = 1 ∧ (grS nx t nn.toNat (μ 64) (μ 65)).1 = (grS nx t (nn - i).toNat (σ 64) (σ 65)).1 + i ∧ (grS nx t nn.toNat (μ 64) (μ 65)).2 = (grS nx t (nn - i).toNat (σ 64) (σ 65)).2) ∨ (go = 0 ∧ G1 = i ∧ Gc = σ 64 ∧ Gr = σ 65)) := hI
          have hi := hI.1
          have hgo2 := hI.2.1
          have he : ∀ k, k ∉ [82, 83, 80, 81, 60, 64, 65] → σ k = μ k := hI.2.2.1
          have he60 : ∀ j, j ≠ 41 → σ 60 j = μ 60 j := hI.2.2.2.1
          have hW8 := hI.2.2.2.2.1 t (by omega) (by omega)
          have h8t : σ 64 t = μ 64 t + i := by rw [hI.2.2.2.2.2.2.1, up1_s]
          have ht : 0 ≤ t ∧ t < 3 := by omega
          refine tt_iload X rfl dX10_greedy_63 ?_
          refine tt_iload_n X rfl dX10_greedy_65 ?_
          refine tt_icmp_ge X 153 (by first | omega | (simp (disch := decide) only [ot_rd, ot_rs, ot_rf, ot_ucd, ot_ucs, he, he60]; omega)) dX10_greedy_66 (by decide) (fun b66 => ?_) (fun b66 => ?_)
          · obtain ⟨hg1, hg2, hg3⟩ : G1 = i ∧ Gc = σ 64 ∧ Gr = σ 65 := by
              rcases hI.2.2.2.2.2.2.2 with hgr | hgr
              · have hst : grS nx t (nn - i).toNat (σ 64) (σ 65) = (0, σ 64, σ 65) := grS_stop (Or.inl (by omega))
                rw [hst, ← hGG] at hgr
                have hg2 : (Gc, Gr) = (σ 64, σ 65) := hgr.2.2
                have hg1 : G1 = 0 + i := hgr.2.1
                exact ⟨by omega, congrArg Prod.fst hg2, congrArg Prod.snd hg2⟩
              · exact hgr.2
            refine tt_aload_n X rfl dX10_greedy_153 ?_
            refine tt_iload_n X rfl dX10_greedy_154 ?_
            refine tt_vi X rfl mX10_267 (q_farOf l g ln ext _ pp (by omega) (by simp (disch := decide) only [ot_rd, ot_rs, ot_rf, ot_ucd, ot_ucs, ot_rdf, he, he60]; omega) (by simp (disch := decide) only [ot_rd, ot_rs, ot_rf, ot_ucd, ot_ucs, ot_rdf, he, he60]; exact gFar_of hWn (by omega) (fun k k1 k2 => by rw [hI.2.2.2.2.2.1 k k1 k2]; have := dk_bd hG hI.2.2.2.2.1 hs k; omega))) (k_60 _ _) ⟨_, rfl, rfl⟩ rfl rfl (Nat.le_of_ble_eq_true rfl) (by decide) (by decide) (by decide) dX10_greedy_155 (fun z155 L155 μ155 hp => ?_)
            obtain ⟨rfl, e155, hz155⟩ := hp
            replace e155 := e155.symm
            subst e155
            simp (disch := decide) only [ot_rd, ot_rs, ot_rf, ot_ucd, ot_ucs, ot_rdf, he, he60] at hz155
            refine tt_istore X dX10_greedy_158 (by decide) ?_
            have hz155' : z155 = farS (fun k => μ 67 k + 1) (μ 66) (dk (μ 60 1) (μ 61) (μ 62) Gc Gr (μ 63)) pp := by
              rw [hz155, hg2, hg3, farM_congr (d2 := dk (μ 60 1) (μ 61) (μ 62) (σ 64) (σ 65) (μ 63)) hI.2.2.2.2.2.1]
              exact farM_S (fun k k1 k2 hk => ⟨(hWn pp k (by omega) (by omega) k1 k2).2 hk, dk_out hG hI.2.2.2.2.1 hk⟩)
            refine tt_aload_n X rfl dX10_greedy_160 ?_
            refine tt_getr X fX10_23 (k_60 _ _) (by decide) ⟨nofun, nofun⟩ rfl dX10_greedy_161 ?_
            refine tt_iload_n X rfl dX10_greedy_164 ?_
            refine tt_iaload X (k_64 _ _) (by first | omega | (simp (disch := decide) only [ot_rd, ot_rs, ot_rf, ot_ucd, ot_ucs, he, he60]; omega)) dX10_greedy_165 ?_
            try simp (disch := decide) only [ot_rd, ot_rs, ot_rf, ot_ucd, ot_ucs, he, he60]
            refine tt_if_ne X 173 (by first | omega | (simp (disch := decide) only [ot_rd, ot_rs, ot_rf, ot_ucd, ot_ucs, he, he60]; omega)) dX10_greedy_166 (by decide) (fun b166 => ?_) (fun b166 => ?_)
            · refine tt_aload_n X rfl dX10_greedy_173 ?_
              refine tt_iload_n X rfl dX10_greedy_174 ?_
              refine tt_aload_n X rfl dX10_greedy_175 ?_
              refine tt_getr X fX10_23 (k_60 _ _) (by decide) ⟨nofun, nofun⟩ rfl dX10_greedy_176 ?_
              refine tt_iload_n X rfl dX10_greedy_179 ?_
              refine tt_iaload X (k_64 _ _) (by first | omega | (simp (disch := decide) only [ot_rd, ot_rs, ot_rf, ot_ucd, ot_ucs, he, he60]; omega)) dX10_greedy_180 ?_
              try simp (disch := decide) only [ot_rd, ot_rs, ot_rf, ot_ucd, ot_ucs, he, he60]
              refine tt_iconst X dX10_greedy_181 ?_
              refine tt_isub X dX10_greedy_182 ?_
              refine tt_vi X rfl mX10_239 (q_woundAt l g ln ext _ _ _ (by omega) (by omega)) (k_60 _ _) ⟨_, rfl, rfl⟩ rfl rfl (Nat.le_of_ble_eq_true rfl) (by decide) (by decide) (by decide) dX10_greedy_183 (fun z183 L183 μ183 hp => ?_)
              obtain ⟨rfl, e183, hz183⟩ := hp
              replace e183 := e183.symm
              subst e183
              refine tt_istore X dX10_greedy_186 (by decide) ?_
              refine tt_aload_n X rfl dX10_greedy_188 ?_
              refine tt_getr X fX10_23 (k_60 _ _) (by decide) ⟨nofun, nofun⟩ rfl dX10_greedy_189 ?_
              refine tt_iload_n X rfl dX10_greedy_192 ?_
              refine tt_iload X rfl dX10_greedy_193 ?_
              refine tt_iastore X (k_64 _ _) (by first | omega | (simp (disch := decide) only [ot_rd, ot_rs, ot_rf, ot_ucd, ot_ucs, he, he60]; omega)) dX10_greedy_195 ?_
              refine tt_iload X rfl dX10_greedy_196 ?_
              refine tt_if_ne X 206 (by first | omega | (simp (disch := decide) only [ot_rd, ot_rs, ot_rf, ot_ucd, ot_ucs, he, he60]; omega)) dX10_greedy_198 (by decide) (fun b198 => ?_) (fun b198 => ?_)
              · refine tt_iload X rfl dX10_greedy_206 ?_
                refine tt_iconst X dX10_greedy_208 ?_
                refine tt_icmp_ne X 217 (by first | omega | (simp (disch := decide) only [ot_rd, ot_rs, ot_rf, ot_ucd, ot_ucs, he, he60]; omega)) dX10_greedy_209 (by decide) (fun b209 => ?_) (fun b209 => ?_)
                · refine tt_iload X rfl dX10_greedy_217 ?_
                  refine tt_iret X ⟨hr.1, hr.2.1⟩ (by decide) (by decide) dX10_greedy_219 ?_
                  refine ⟨rfl, Or.inl ⟨by omega, ?_, ?_, ?_, ?_⟩⟩
                  · intro k hk
                    by_cases k8 : k = 64
                    · rw [k8, ot_up_uc, ot_ucs, hI.2.2.2.2.2.2.1, up1_up1]; exact up1_id rfl
                    · rw [ot_rdf k8]; exact he k (by intro hk2; apply hk; revert hk2; simp; omega)
                  · intro j hj
                    simp (disch := decide) only [ot_rd, ot_rs, ot_rf, ot_ucd, ot_ucs, ot_rdf]; exact he60 j hj
                  · simp (disch := decide) only [ot_rd, ot_rs, ot_rf, ot_ucd, ot_ucs, ot_rdf]; exact hg3.symm
                  · first
                      | (rw [if_pos (by omega)]; exact hg1.symm)
                      | (rw [if_neg (by omega), if_pos (by omega)]; exact hz155')
                      | (rw [if_neg (by omega), if_neg (by omega), hg2, hg3]
                         first | (rw [if_pos (by omega)]; done) | (rw [if_neg (by omega)]; exact hz183))
                · refine tt_iload X rfl dX10_greedy_212 ?_
                  refine tt_goto X 219 dX10_greedy_214 (by decide) ?_
                  refine tt_iret X ⟨hr.1, hr.2.1⟩ (by decide) (by decide) dX10_greedy_219 ?_
                  refine ⟨rfl, Or.inl ⟨by omega, ?_, ?_, ?_, ?_⟩⟩
                  · intro k hk
                    by_cases k8 : k = 64
                    · rw [k8, ot_up_uc, ot_ucs, hI.2.2.2.2.2.2.1, up1_up1]; exact up1_id rfl
                    · rw [ot_rdf k8]; exact he k (by intro hk2; apply hk; revert hk2; simp; omega)
                  · intro j hj
                    simp (disch := decide) only [ot_rd, ot_rs, ot_rf, ot_ucd, ot_ucs, ot_rdf]; exact he60 j hj
                  · simp (disch := decide) only [ot_rd, ot_rs, ot_rf, ot_ucd, ot_ucs, ot_rdf]; exact hg3.symm
                  · first
                      | (rw [if_pos (by omega)]; exact hg1.symm)
                      | (rw [if_neg (by omega), if_pos (by omega)]; exact hz155')
                      | (rw [if_neg (by omega), if_neg (by omega), hg2, hg3]
                         first | (rw [if_pos (by omega)]; done) | (rw [if_neg (by omega)]; exact hz183))
              · refine tt_iload X rfl dX10_greedy_201 ?_
                refine tt_goto X 219 dX10_greedy_203 (by decide) ?_
                refine tt_iret X ⟨hr.1, hr.2.1⟩ (by decide) (by decide) dX10_greedy_219 ?_
                refine ⟨rfl, Or.inl ⟨by omega, ?_, ?_, ?_, ?_⟩⟩
                · intro k hk
                  by_cases k8 : k = 64
                  · rw [k8, ot_up_uc, ot_ucs, hI.2.2.2.2.2.2.1, up1_up1]; exact up1_id rfl
                  · rw [ot_rdf k8]; exact he k (by intro hk2; apply hk; revert hk2; simp; omega)
                · intro j hj
                  simp (disch := decide) only [ot_rd, ot_rs, ot_rf, ot_ucd, ot_ucs, ot_rdf]; exact he60 j hj
                · simp (disch := decide) only [ot_rd, ot_rs, ot_rf, ot_ucd, ot_ucs, ot_rdf]; exact hg3.symm
                · first
                    | (rw [if_pos (by omega)]; exact hg1.symm)
                    | (rw [if_neg (by omega), if_pos (by omega)]; exact hz155')
                    | (rw [if_neg (by omega), if_neg (by omega), hg2, hg3]
                       first | (rw [if_pos (by omega)]; done) | (rw [if_neg (by omega)]; exact hz183))
            · refine tt_iconst X dX10_greedy_169 ?_
              refine tt_goto X 186 dX10_greedy_170 (by decide) ?_
              refine tt_istore X dX10_greedy_186 (by decide) ?_
              refine tt_aload_n X rfl dX10_greedy_188 ?_
              refine tt_getr X fX10_23 (k_60 _ _) (by decide) ⟨nofun, nofun⟩ rfl dX10_greedy_189 ?_
              refine tt_iload_n X rfl dX10_greedy_192 ?_
              refine tt_iload X rfl dX10_greedy_193 ?_
              refine tt_iastore X (k_64 _ _) (by first | omega | (simp (disch := decide) only [ot_rd, ot_rs, ot_rf, ot_ucd, ot_ucs, he, he60]; omega)) dX10_greedy_195 ?_
              refine tt_iload X rfl dX10_greedy_196 ?_
              refine tt_if_ne X 206 (by first | omega | (simp (disch := decide) only [ot_rd, ot_rs, ot_rf, ot_ucd, ot_ucs, he, he60]; omega)) dX10_greedy_198 (by decide) (fun b198 => ?_) (fun b198 => ?_)
              · refine tt_iload X rfl dX10_greedy_206 ?_
                refine tt_iconst X dX10_greedy_208 ?_
                refine tt_icmp_ne X 217 (by first | omega | (simp (disch := decide) only [ot_rd, ot_rs, ot_rf, ot_ucd, ot_ucs, he, he60]; omega)) dX10_greedy_209 (by decide) (fun b209 => ?_) (fun b209 => ?_)
                · refine tt_iload X rfl dX10_greedy_217 ?_
                  refine tt_iret X ⟨hr.1, hr.2.1⟩ (by decide) (by decide) dX10_greedy_219 ?_
                  refine ⟨rfl, Or.inl ⟨by omega, ?_, ?_, ?_, ?_⟩⟩
                  · intro k hk
                    by_cases k8 : k = 64
                    · rw [k8, ot_up_uc, ot_ucs, hI.2.2.2.2.2.2.1, up1_up1]; exact up1_id rfl
                    · rw [ot_rdf k8]; exact he k (by intro hk2; apply hk; revert hk2; simp; omega)
                  · intro j hj
                    simp (disch := decide) only [ot_rd, ot_rs, ot_rf, ot_ucd, ot_ucs, ot_rdf]; exact he60 j hj
                  · simp (disch := decide) only [ot_rd, ot_rs, ot_rf, ot_ucd, ot_ucs, ot_rdf]; exact hg3.symm
                  · first
                      | (rw [if_pos (by omega)]; exact hg1.symm)
                      | (rw [if_neg (by omega), if_pos (by omega)]; exact hz155')
                      | (rw [if_neg (by omega), if_neg (by omega), hg2, hg3]
                         first | (rw [if_pos (by omega)]; done) | (rw [if_neg (by omega)]; exact hz183))
                · refine tt_iload X rfl dX10_greedy_212 ?_
                  refine tt_goto X 219 dX10_greedy_214 (by decide) ?_
                  refine tt_iret X ⟨hr.1, hr.2.1⟩ (by decide) (by decide) dX10_greedy_219 ?_
                  refine ⟨rfl, Or.inl ⟨by omega, ?_, ?_, ?_, ?_⟩⟩
                  · intro k hk
                    by_cases k8 : k = 64
                    · rw [k8, ot_up_uc, ot_ucs, hI.2.2.2.2.2.2.1, up1_up1]; exact up1_id rfl
                    · rw [ot_rdf k8]; exact he k (by intro hk2; apply hk; revert hk2; simp; omega)
                  · intro j hj
                    simp (disch := decide) only [ot_rd, ot_rs, ot_rf, ot_ucd, ot_ucs, ot_rdf]; exact he60 j hj
                  · simp (disch := decide) only [ot_rd, ot_rs, ot_rf, ot_ucd, ot_ucs, ot_rdf]; exact hg3.symm
                  · first
                      | (rw [if_pos (by omega)]; exact hg1.symm)
                      | (rw [if_neg (by omega), if_pos (by omega)]; exact hz155')
                      | (rw [if_neg (by omega), if_neg (by omega), hg2, hg3]
                         first | (rw [if_pos (by omega)]; done) | (rw [if_neg (by omega)]; exact hz183))
              · refine tt_iload X rfl dX10_greedy_201 ?_
                refine tt_goto X 219 dX10_greedy_203 (by decide) ?_
                refine tt_iret X ⟨hr.1, hr.2.1⟩ (by decide) (by decide) dX10_greedy_219 ?_
                refine ⟨rfl, Or.inl ⟨by omega, ?_, ?_, ?_, ?_⟩⟩
                · intro k hk
                  by_cases k8 : k = 64
                  · rw [k8, ot_up_uc, ot_ucs, hI.2.2.2.2.2.2.1, up1_up1]; exact up1_id rfl
                  · rw [ot_rdf k8]; exact he k (by intro hk2; apply hk; revert hk2; simp; omega)
                · intro j hj
                  simp (disch := decide) only [ot_rd, ot_rs, ot_rf, ot_ucd, ot_ucs, ot_rdf]; exact he60 j hj
                · simp (disch := decide) only [ot_rd, ot_rs, ot_rf, ot_ucd, ot_ucs, ot_rdf]; exact hg3.symm
                · first
                    | (rw [if_pos (by omega)]; exact hg1.symm)
                    | (rw [if_neg (by omega), if_pos (by omega)]; exact hz155')
                    | (rw [if_neg (by omega), if_neg (by omega), hg2, hg3]
                       first | (rw [if_pos (by omega)]; done) | (rw [if_neg (by omega)]; exact hz183))
          · refine tt_iload X rfl dX10_greedy_69 ?_
            refine tt_if_eq X 153 (by first | omega | (simp (disch := decide) only [ot_rd, ot_rs, ot_rf, ot_ucd, ot_ucs, he, he60]; omega)) dX10_greedy_71 (by decide) (fun b71 => ?_) (fun b71 => ?_)
            · obtain ⟨hg1, hg2, hg3⟩ : G1 = i ∧ Gc = σ 64 ∧ Gr = σ 65 := by
                rcases hI.2.2.2.2.2.2.2 with hgr | hgr
                · have hst : grS nx t (nn - i).toNat (σ 64) (σ 65) = (0, σ 64, σ 65) := grS_stop (Or.inl (by omega))
                  rw [hst, ← hGG] at hgr
                  have hg2 : (Gc, Gr) = (σ 64, σ 65) := hgr.2.2
                  have hg1 : G1 = 0 + i := hgr.2.1
                  exact ⟨by omega, congrArg Prod.fst hg2, congrArg Prod.snd hg2⟩
                · exact hgr.2
              refine tt_aload_n X rfl dX10_greedy_153 ?_
              refine tt_iload_n X rfl dX10_greedy_154 ?_
              refine tt_vi X rfl mX10_267 (q_farOf l g ln ext _ pp (by omega) (by simp (disch := decide) only [ot_rd, ot_rs, ot_rf, ot_ucd, ot_ucs, ot_rdf, he, he60]; omega) (by simp (disch := decide) only [ot_rd, ot_rs, ot_rf, ot_ucd, ot_ucs, ot_rdf, he, he60]; exact gFar_of hWn (by omega) (fun k k1 k2 => by rw [hI.2.2.2.2.2.1 k k1 k2]; have := dk_bd hG hI.2.2.2.2.1 hs k; omega))) (k_60 _ _) ⟨_, rfl, rfl⟩ rfl rfl (Nat.le_of_ble_eq_true rfl) (by decide) (by decide) (by decide) dX10_greedy_155 (fun z155 L155 μ155 hp => ?_)
              obtain ⟨rfl, e155, hz155⟩ := hp
              replace e155 := e155.symm
              subst e155
              simp (disch := decide) only [ot_rd, ot_rs, ot_rf, ot_ucd, ot_ucs, ot_rdf, he, he60] at hz155
              refine tt_istore X dX10_greedy_158 (by decide) ?_
              have hz155' : z155 = farS (fun k => μ 67 k + 1) (μ 66) (dk (μ 60 1) (μ 61) (μ 62) Gc Gr (μ 63)) pp := by
                rw [hz155, hg2, hg3, farM_congr (d2 := dk (μ 60 1) (μ 61) (μ 62) (σ 64) (σ 65) (μ 63)) hI.2.2.2.2.2.1]
                exact farM_S (fun k k1 k2 hk => ⟨(hWn pp k (by omega) (by omega) k1 k2).2 hk, dk_out hG hI.2.2.2.2.1 hk⟩)
              refine tt_aload_n X rfl dX10_greedy_160 ?_
              refine tt_getr X fX10_23 (k_60 _ _) (by decide) ⟨nofun, nofun⟩ rfl dX10_greedy_161 ?_
              refine tt_iload_n X rfl dX10_greedy_164 ?_
              refine tt_iaload X (k_64 _ _) (by first | omega | (simp (disch := decide) only [ot_rd, ot_rs, ot_rf, ot_ucd, ot_ucs, he, he60]; omega)) dX10_greedy_165 ?_
              try simp (disch := decide) only [ot_rd, ot_rs, ot_rf, ot_ucd, ot_ucs, he, he60]
              refine tt_if_ne X 173 (by first | omega | (simp (disch := decide) only [ot_rd, ot_rs, ot_rf, ot_ucd, ot_ucs, he, he60]; omega)) dX10_greedy_166 (by decide) (fun b166 => ?_) (fun b166 => ?_)
              · refine tt_aload_n X rfl dX10_greedy_173 ?_
                refine tt_iload_n X rfl dX10_greedy_174 ?_
                refine tt_aload_n X rfl dX10_greedy_175 ?_
                refine tt_getr X fX10_23 (k_60 _ _) (by decide) ⟨nofun, nofun⟩ rfl dX10_greedy_176 ?_
                refine tt_iload_n X rfl dX10_greedy_179 ?_
                refine tt_iaload X (k_64 _ _) (by first | omega | (simp (disch := decide) only [ot_rd, ot_rs, ot_rf, ot_ucd, ot_ucs, he, he60]; omega)) dX10_greedy_180 ?_
                try simp (disch := decide) only [ot_rd, ot_rs, ot_rf, ot_ucd, ot_ucs, he, he60]
                refine tt_iconst X dX10_greedy_181 ?_
                refine tt_isub X dX10_greedy_182 ?_
                refine tt_vi X rfl mX10_239 (q_woundAt l g ln ext _ _ _ (by omega) (by omega)) (k_60 _ _) ⟨_, rfl, rfl⟩ rfl rfl (Nat.le_of_ble_eq_true rfl) (by decide) (by decide) (by decide) dX10_greedy_183 (fun z183 L183 μ183 hp => ?_)
                obtain ⟨rfl, e183, hz183⟩ := hp
                replace e183 := e183.symm
                subst e183
                refine tt_istore X dX10_greedy_186 (by decide) ?_
                refine tt_aload_n X rfl dX10_greedy_188 ?_
                refine tt_getr X fX10_23 (k_60 _ _) (by decide) ⟨nofun, nofun⟩ rfl dX10_greedy_189 ?_
                refine tt_iload_n X rfl dX10_greedy_192 ?_
                refine tt_iload X rfl dX10_greedy_193 ?_
                refine tt_iastore X (k_64 _ _) (by first | omega | (simp (disch := decide) only [ot_rd, ot_rs, ot_rf, ot_ucd, ot_ucs, he, he60]; omega)) dX10_greedy_195 ?_
                refine tt_iload X rfl dX10_greedy_196 ?_
                refine tt_if_ne X 206 (by first | omega | (simp (disch := decide) only [ot_rd, ot_rs, ot_rf, ot_ucd, ot_ucs, he, he60]; omega)) dX10_greedy_198 (by decide) (fun b198 => ?_) (fun b198 => ?_)
                · refine tt_iload X rfl dX10_greedy_206 ?_
                  refine tt_iconst X dX10_greedy_208 ?_
                  refine tt_icmp_ne X 217 (by first | omega | (simp (disch := decide) only [ot_rd, ot_rs, ot_rf, ot_ucd, ot_ucs, he, he60]; omega)) dX10_greedy_209 (by decide) (fun b209 => ?_) (fun b209 => ?_)
                  · refine tt_iload X rfl dX10_greedy_217 ?_
                    refine tt_iret X ⟨hr.1, hr.2.1⟩ (by decide) (by decide) dX10_greedy_219 ?_
                    refine ⟨rfl, Or.inl ⟨by omega, ?_, ?_, ?_, ?_⟩⟩
                    · intro k hk
                      by_cases k8 : k = 64
                      · rw [k8, ot_up_uc, ot_ucs, hI.2.2.2.2.2.2.1, up1_up1]; exact up1_id rfl
                      · rw [ot_rdf k8]; exact he k (by intro hk2; apply hk; revert hk2; simp; omega)
                    · intro j hj
                      simp (disch := decide) only [ot_rd, ot_rs, ot_rf, ot_ucd, ot_ucs, ot_rdf]; exact he60 j hj
                    · simp (disch := decide) only [ot_rd, ot_rs, ot_rf, ot_ucd, ot_ucs, ot_rdf]; exact hg3.symm
                    · first
                        | (rw [if_pos (by omega)]; exact hg1.symm)
                        | (rw [if_neg (by omega), if_pos (by omega)]; exact hz155')
                        | (rw [if_neg (by omega), if_neg (by omega), hg2, hg3]
                           first | (rw [if_pos (by omega)]; done) | (rw [if_neg (by omega)]; exact hz183))
                  · refine tt_iload X rfl dX10_greedy_212 ?_
                    refine tt_goto X 219 dX10_greedy_214 (by decide) ?_
                    refine tt_iret X ⟨hr.1, hr.2.1⟩ (by decide) (by decide) dX10_greedy_219 ?_
                    refine ⟨rfl, Or.inl ⟨by omega, ?_, ?_, ?_, ?_⟩⟩
                    · intro k hk
                      by_cases k8 : k = 64
                      · rw [k8, ot_up_uc, ot_ucs, hI.2.2.2.2.2.2.1, up1_up1]; exact up1_id rfl
                      · rw [ot_rdf k8]; exact he k (by intro hk2; apply hk; revert hk2; simp; omega)
                    · intro j hj
                      simp (disch := decide) only [ot_rd, ot_rs, ot_rf, ot_ucd, ot_ucs, ot_rdf]; exact he60 j hj
                    · simp (disch := decide) only [ot_rd, ot_rs, ot_rf, ot_ucd, ot_ucs, ot_rdf]; exact hg3.symm
                    · first
                        | (rw [if_pos (by omega)]; exact hg1.symm)
                        | (rw [if_neg (by omega), if_pos (by omega)]; exact hz155')
                        | (rw [if_neg (by omega), if_neg (by omega), hg2, hg3]
                           first | (rw [if_pos (by omega)]; done) | (rw [if_neg (by omega)]; exact hz183))
                · refine tt_iload X rfl dX10_greedy_201 ?_
                  refine tt_goto X 219 dX10_greedy_203 (by decide) ?_
                  refine tt_iret X ⟨hr.1, hr.2.1⟩ (by decide) (by decide) dX10_greedy_219 ?_
                  refine ⟨rfl, Or.inl ⟨by omega, ?_, ?_, ?_, ?_⟩⟩
                  · intro k hk
                    by_cases k8 : k = 64
                    · rw [k8, ot_up_uc, ot_ucs, hI.2.2.2.2.2.2.1, up1_up1]; exact up1_id rfl
                    · rw [ot_rdf k8]; exact he k (by intro hk2; apply hk; revert hk2; simp; omega)
                  · intro j hj
                    simp (disch := decide) only [ot_rd, ot_rs, ot_rf, ot_ucd, ot_ucs, ot_rdf]; exact he60 j hj
                  · simp (disch := decide) only [ot_rd, ot_rs, ot_rf, ot_ucd, ot_ucs, ot_rdf]; exact hg3.symm
                  · first
                      | (rw [if_pos (by omega)]; exact hg1.symm)
                      | (rw [if_neg (by omega), if_pos (by omega)]; exact hz155')
                      | (rw [if_neg (by omega), if_neg (by omega), hg2, hg3]
                         first | (rw [if_pos (by omega)]; done) | (rw [if_neg (by omega)]; exact hz183))
              · refine tt_iconst X dX10_greedy_169 ?_
                refine tt_goto X 186 dX10_greedy_170 (by decide) ?_
                refine tt_istore X dX10_greedy_186 (by decide) ?_
                refine tt_aload_n X rfl dX10_greedy_188 ?_
                refine tt_getr X fX10_23 (k_60 _ _) (by decide) ⟨nofun, nofun⟩ rfl dX10_greedy_189 ?_
                refine tt_iload_n X rfl dX10_greedy_192 ?_
                refine tt_iload X rfl dX10_greedy_193 ?_
                refine tt_iastore X (k_64 _ _) (by first | omega | (simp (disch := decide) only [ot_rd, ot_rs, ot_rf, ot_ucd, ot_ucs, he, he60]; omega)) dX10_greedy_195 ?_
                refine tt_iload X rfl dX10_greedy_196 ?_
                refine tt_if_ne X 206 (by first | omega | (simp (disch := decide) only [ot_rd, ot_rs, ot_rf, ot_ucd, ot_ucs, he, he60]; omega)) dX10_greedy_198 (by decide) (fun b198 => ?_) (fun b198 => ?_)
                · refine tt_iload X rfl dX10_greedy_206 ?_
                  refine tt_iconst X dX10_greedy_208 ?_
                  refine tt_icmp_ne X 217 (by first | omega | (simp (disch := decide) only [ot_rd, ot_rs, ot_rf, ot_ucd, ot_ucs, he, he60]; omega)) dX10_greedy_209 (by decide) (fun b209 => ?_) (fun b209 => ?_)
                  · refine tt_iload X rfl dX10_greedy_217 ?_
                    refine tt_iret X ⟨hr.1, hr.2.1⟩ (by decide) (by decide) dX10_greedy_219 ?_
                    refine ⟨rfl, Or.inl ⟨by omega, ?_, ?_, ?_, ?_⟩⟩
                    · intro k hk
                      by_cases k8 : k = 64
                      · rw [k8, ot_up_uc, ot_ucs, hI.2.2.2.2.2.2.1, up1_up1]; exact up1_id rfl
                      · rw [ot_rdf k8]; exact he k (by intro hk2; apply hk; revert hk2; simp; omega)
                    · intro j hj
                      simp (disch := decide) only [ot_rd, ot_rs, ot_rf, ot_ucd, ot_ucs, ot_rdf]; exact he60 j hj
                    · simp (disch := decide) only [ot_rd, ot_rs, ot_rf, ot_ucd, ot_ucs, ot_rdf]; exact hg3.symm
                    · first
                        | (rw [if_pos (by omega)]; exact hg1.symm)
                        | (rw [if_neg (by omega), if_pos (by omega)]; exact hz155')
                        | (rw [if_neg (by omega), if_neg (by omega), hg2, hg3]
                           first | (rw [if_pos (by omega)]; done) | (rw [if_neg (by omega)]; exact hz183))
                  · refine tt_iload X rfl dX10_greedy_212 ?_
                    refine tt_goto X 219 dX10_greedy_214 (by decide) ?_
                    refine tt_iret X ⟨hr.1, hr.2.1⟩ (by decide) (by decide) dX10_greedy_219 ?_
                    refine ⟨rfl, Or.inl ⟨by omega, ?_, ?_, ?_, ?_⟩⟩
                    · intro k hk
                      by_cases k8 : k = 64
                      · rw [k8, ot_up_uc, ot_ucs, hI.2.2.2.2.2.2.1, up1_up1]; exact up1_id rfl
                      · rw [ot_rdf k8]; exact he k (by intro hk2; apply hk; revert hk2; simp; omega)
                    · intro j hj
                      simp (disch := decide) only [ot_rd, ot_rs, ot_rf, ot_ucd, ot_ucs, ot_rdf]; exact he60 j hj
                    · simp (disch := decide) only [ot_rd, ot_rs, ot_rf, ot_ucd, ot_ucs, ot_rdf]; exact hg3.symm
                    · first
                        | (rw [if_pos (by omega)]; exact hg1.symm)
                        | (rw [if_neg (by omega), if_pos (by omega)]; exact hz155')
                        | (rw [if_neg (by omega), if_neg (by omega), hg2, hg3]
                           first | (rw [if_pos (by omega)]; done) | (rw [if_neg (by omega)]; exact hz183))
                · refine tt_iload X rfl dX10_greedy_201 ?_
                  refine tt_goto X 219 dX10_greedy_203 (by decide) ?_
                  refine tt_iret X ⟨hr.1, hr.2.1⟩ (by decide) (by decide) dX10_greedy_219 ?_
                  refine ⟨rfl, Or.inl ⟨by omega, ?_, ?_, ?_, ?_⟩⟩
                  · intro k hk
                    by_cases k8 : k = 64
                    · rw [k8, ot_up_uc, ot_ucs, hI.2.2.2.2.2.2.1, up1_up1]; exact up1_id rfl
                    · rw [ot_rdf k8]; exact he k (by intro hk2; apply hk; revert hk2; simp; omega)
                  · intro j hj
                    simp (disch := decide) only [ot_rd, ot_rs, ot_rf, ot_ucd, ot_ucs, ot_rdf]; exact he60 j hj
                  · simp (disch := decide) only [ot_rd, ot_rs, ot_rf, ot_ucd, ot_ucs, ot_rdf]; exact hg3.symm
                  · first
                      | (rw [if_pos (by omega)]; exact hg1.symm)
                      | (rw [if_neg (by omega), if_pos (by omega)]; exact hz155')
                      | (rw [if_neg (by omega), if_neg (by omega), hg2, hg3]
                         first | (rw [if_pos (by omega)]; done) | (rw [if_neg (by omega)]; exact hz183))
            · refine tt_aload_n X rfl dX10_greedy_74 ?_
              refine tt_iload_n X rfl dX10_greedy_75 ?_
              refine tt_iload_n X rfl dX10_greedy_76 ?_
              refine tt_vi X rfl mX10_275 (q_nextOf l g ln ext _ t pp (farS (fun k => μ 67 k + 1) (μ 66) (dk (μ 60 1) (μ 61) (μ 62) (σ 64) (σ 65) (μ 63)) pp) (dk (μ 60 1) (μ 61) (μ 62) (σ 64) (σ 65) (μ 63)) (by simp (disch := decide) only [ot_rd, ot_rs, ot_rf, ot_ucd, ot_ucs, ot_rdf, he, he60]) (by simp (disch := decide) only [ot_rd, ot_rs, ot_rf, ot_ucd, ot_ucs, ot_rdf, he, he60]) (by simp (disch := decide) only [ot_rd, ot_rs, ot_rf, ot_ucd, ot_ucs, ot_rdf, he, he60]; exact hG) (by simp (disch := decide) only [ot_rd, ot_rs, ot_rf, ot_ucd, ot_ucs, ot_rdf, he, he60]; exact hI.2.2.2.2.1) (by simp (disch := decide) only [ot_rd, ot_rs, ot_rf, ot_ucd, ot_ucs, ot_rdf, he, he60]; exact hL) (by simp (disch := decide) only [ot_rd, ot_rs, ot_rf, ot_ucd, ot_ucs, ot_rdf, he, he60]; exact hs) (by simp (disch := decide) only [ot_rd, ot_rs, ot_rf, ot_ucd, ot_ucs, ot_rdf, he, he60]; exact hw0) (by simp (disch := decide) only [ot_rd, ot_rs, ot_rf, ot_ucd, ot_ucs, ot_rdf, he, he60]; exact hWn) (by omega) (by omega) hI.2.2.2.2.2.1) (k_60 _ _) ⟨_, rfl, rfl⟩ rfl rfl (Nat.le_of_ble_eq_true rfl) (by decide) (by decide) (by decide) dX10_greedy_77 (fun z77 L77 μ77 hp => ?_)
              obtain ⟨rfl, hq77, hz77d, hz77r, b, hz77n, hz77b, hz77f⟩ := hp
              simp (disch := decide) only [ot_rd, ot_rs, ot_rf, ot_ucd, ot_ucs, ot_rdf, he, he60] at hz77n hz77f hz77r
              have he64 : μ77 64 = σ 64 := hq77 64 (by decide)
              have he65 : μ77 65 = σ 65 := hq77 65 (by decide)
              have hqM : eqx [82, 83, 80, 81, 60, 64, 65] μ μ77 := eqx_trans hI.2.2.1 (eqx_mono hq77 (by intro k hk hk2; apply hk; revert hk2; simp; omega))
              have heM : ∀ k, k ∉ [82, 83, 80, 81, 60, 64, 65] → μ77 k = μ k := hqM
              have heM60 : ∀ j, j ≠ 41 → μ77 60 j = μ 60 j := fun j hj => by rw [hz77f, up1_n hj, he60 j hj]
              have hnm := nextS_may hz77n
              have hnb : (z77, b) = nx (σ 64) (σ 65) := by rw [hz77n, hnx]
              obtain ⟨F0, hF0⟩ : ∃ F0, F0 = farS (fun k => μ 67 k + 1) (μ 66) (dk (μ 60 1) (μ 61) (μ 62) (σ 64) (σ 65) (μ 63)) pp := ⟨_, rfl⟩
              rw [← hF0] at hz77f
              have hfb : μ77 60 41 = if z77 = -1 then 1000000000 else F0 - b := by rw [hz77f, up1_s]
              have hFb : 0 ≤ F0 ∧ F0 ≤ 17856000 := by rw [hF0]; exact farS_bd hw0 (fun k k1 k2 => (hWn pp k (by omega) (by omega) k1 k2).1) (fun k _ _ => by have := dk_bd hG hI.2.2.2.2.1 hs k; omega)
              refine tt_istore X dX10_greedy_80 (by decide) ?_
              refine tt_iload X rfl dX10_greedy_82 ?_
              refine tt_iconst X dX10_greedy_84 ?_
              refine tt_icmp_eq X 104 (by first | omega | (simp (disch := decide) only [ot_rd, ot_rs, ot_rf, ot_ucd, ot_ucs, heM, heM60, he64, he65]; omega)) dX10_greedy_85 (by decide) (fun b85 => ?_) (fun b85 => ?_)
              · refine tt_iconst X dX10_greedy_104 ?_
                refine tt_istore X dX10_greedy_105 (by decide) ?_
                refine tt_iload X rfl dX10_greedy_107 ?_
                refine tt_if_eq X 150 (by first | omega | (simp (disch := decide) only [ot_rd, ot_rs, ot_rf, ot_ucd, ot_ucs, heM, heM60, he64, he65]; omega)) dX10_greedy_109 (by decide) (fun b109 => ?_) (fun b109 => ?_)
                · refine tt_goto X 63 dX10_greedy_150 (by decide) ?_
                  refine tt_loc [(0, _), (1, _), (2, _), (3, _), (4, _), (5, _), (6, _), (7, _)] ⟨rfl, rfl, rfl, rfl, rfl, rfl, rfl, rfl, trivial⟩ ?_
                  refine tt_gen (fun σ2 hσ => ?_)
                  first
                    | (exfalso; omega)
                    | (have hst : grS nx t (nn - i).toNat (σ 64) (σ 65) = (0, σ 64, σ 65) := grS_stop (Or.inr (by rw [← hnb]; show z77 = -1 ∨ b ≤ 0; omega))
                       have hgr := hI.2.2.2.2.2.2.2.resolve_right (by omega)
                       rw [hst, ← hGG] at hgr
                       have hg2 : (Gc, Gr) = (σ 64, σ 65) := hgr.2.2
                       have hg1 : G1 = 0 + i := hgr.2.1
                       have q64 : σ2 64 = σ 64 := by rw [hσ]; exact he64
                       have q65 : σ2 65 = σ 65 := by rw [hσ]; exact he65
                       refine ih (σ2, i, 0) ⟨by show 0 ≤ i ∧ i ≤ nn; omega, Or.inl rfl, ?_, ?_, ?_, ?_, ?_, ?_⟩ (by show (nn - i).toNat + (0 : Int).toNat < (nn - i).toNat + go.toNat; omega)
                       · show eqx [82, 83, 80, 81, 60, 64, 65] μ σ2
                         rw [hσ]; exact hqM
                       · show ∀ j, j ≠ 41 → σ2 60 j = μ 60 j
                         rw [hσ]; exact heM60
                       · show gWnd (μ 60 2) (σ2 64) (σ2 65)
                         rw [q64, q65]; exact hI.2.2.2.2.1
                       · show ∀ k, 0 ≤ k → k < 64 → σ2 83 k = dk (μ 60 1) (μ 61) (μ 62) (σ2 64) (σ2 65) (μ 63) k
                         rw [q64, q65, hσ]; exact hz77d
                       · show σ2 64 = up1 (μ 64) t (μ 64 t + i)
                         rw [q64]; exact hI.2.2.2.2.2.2.1
                       · refine Or.inr ⟨rfl, by show G1 = i; omega, ?_, ?_⟩
                         · show Gc = σ2 64
                           rw [q64]; exact congrArg Prod.fst hg2
                         · show Gr = σ2 65
                           rw [q65]; exact congrArg Prod.snd hg2)
                    | (have hgr := hI.2.2.2.2.2.2.2.resolve_right (by omega)
                       have q64 : σ2 64 = up1 (σ 64) t (σ 64 t + 1) := by rw [hσ]; simp only [ot_up_uc, ot_ucs]; simp (disch := decide) only [ot_ucd, ot_ucs, he64]
                       have q65 : σ2 65 = up1 (σ 65) (120 * t + σ 64 t) z77 := by rw [hσ]; simp only [ot_up_uc, ot_ucs]; simp (disch := decide) only [ot_ucd, ot_ucs, he64, he65]
                       have hgo := grS_go (nx := nx) (t := t) (i := i) (k := (nn - (i + 1)).toNat) hnb (by omega) (by omega) q64 q65
                       rw [show (nn - (i + 1)).toNat + 1 = (nn - i).toNat by omega] at hgo
                       refine ih (σ2, i + 1, 1) ⟨by show 0 ≤ i + 1 ∧ i + 1 ≤ nn; omega, Or.inr rfl, ?_, ?_, ?_, ?_, ?_, ?_⟩ (by show (nn - (i + 1)).toNat + (1 : Int).toNat < (nn - i).toNat + go.toNat; omega)
                       · show eqx [82, 83, 80, 81, 60, 64, 65] μ σ2
                         rw [hσ]
                         repeat first | exact hqM | refine eqx_uc ?_ (by decide) | refine eqx_up ?_ (by decide)
                       · show ∀ j, j ≠ 41 → σ2 60 j = μ 60 j
                         rw [hσ]; simp (disch := decide) only [ot_rd, ot_rs, ot_rf, ot_ucd, ot_ucs, ot_rdf]; exact heM60
                       · show gWnd (μ 60 2) (σ2 64) (σ2 65)
                         rw [q64, q65]; exact gWnd_push hI.2.2.2.2.1 ht (by omega) (by omega) (fun _ => by omega)
                       · show ∀ k, 0 ≤ k → k < 64 → σ2 83 k = dk (μ 60 1) (μ 61) (μ 62) (σ2 64) (σ2 65) (μ 63) k
                         intro k k1 k2
                         rw [q64, q65, dk_push ht (fun u u1 u2 => (hI.2.2.2.2.1 u u1 u2).1) ⟨hW8.1.1, hcan.1⟩, if_neg (by omega), hσ]
                         simp (disch := decide) only [ot_rd, ot_rs, ot_rf, ot_ucd, ot_ucs, ot_rdf]
                         rw [wr_in ⟨k1, k2⟩, hz77d k k1 k2, hz123e]
                       · show σ2 64 = up1 (μ 64) t (μ 64 t + (i + 1))
                         rw [q64, hI.2.2.2.2.2.2.1, up1_up1, up1_s]; congr 1; omega
                       · refine Or.inl ⟨rfl, ?_, ?_⟩
                         · show (grS nx t nn.toNat (μ 64) (μ 65)).1 = (grS nx t (nn - (i + 1)).toNat (σ2 64) (σ2 65)).1 + (i + 1)
                           rw [hgr.2.1, hgo.1]
                         · show (grS nx t nn.toNat (μ 64) (μ 65)).2 = (grS nx t (nn - (i + 1)).toNat (σ2 64) (σ2 65)).2
                           rw [hgr.2.2, hgo.2])
                · have hnm1 := hnm.resolve_left (by omega)
                  have hcan := mayS_can hnm1.2.1
                  have hlp := hW8.2.1 (σ 64 t - 1) (by omega) (by omega)
                  refine tt_aload_n X rfl dX10_greedy_112 ?_
                  refine tt_aload_n X rfl dX10_greedy_113 ?_
                  refine tt_iload_n X rfl dX10_greedy_114 ?_
                  refine tt_aload_n X rfl dX10_greedy_115 ?_
                  refine tt_getr X fX10_23 (k_60 _ _) (by decide) ⟨nofun, nofun⟩ rfl dX10_greedy_116 ?_
                  refine tt_iload_n X rfl dX10_greedy_119 ?_
                  refine tt_iaload X (k_64 _ _) (by first | omega | (simp (disch := decide) only [ot_rd, ot_rs, ot_rf, ot_ucd, ot_ucs, heM, heM60, he64, he65]; omega)) dX10_greedy_120 ?_
                  try simp (disch := decide) only [ot_rd, ot_rs, ot_rf, ot_ucd, ot_ucs, heM, heM60, he64, he65]
                  refine tt_iconst X dX10_greedy_121 ?_
                  refine tt_isub X dX10_greedy_122 ?_
                  refine tt_vi X rfl mX10_239 (q_woundAt l g ln ext _ _ _ (by omega) (by (try rw [he64]); omega)) (k_60 _ _) ⟨_, rfl, rfl⟩ rfl rfl (Nat.le_of_ble_eq_true rfl) (by decide) (by decide) (by decide) dX10_greedy_123 (fun z123 L123 μ123 hp => ?_)
                  obtain ⟨rfl, e123, hz123⟩ := hp
                  replace e123 := e123.symm
                  subst e123
                  have hz123e : z123 = σ 65 (120 * t + (σ 64 t - 1)) := by rw [hz123]; simp only [he64, he65]
                  clear hz123
                  refine tt_iload X rfl dX10_greedy_126 ?_
                  refine tt_aload_n X rfl dX10_greedy_128 ?_
                  refine tt_getr X fX10_20 (k_60 _ _) (by decide) ⟨nofun, nofun⟩ rfl dX10_greedy_129 ?_
                  refine tt_iload_n X rfl dX10_greedy_132 ?_
                  refine tt_iaload X (k_63 _ _) (by first | omega | (simp (disch := decide) only [ot_rd, ot_rs, ot_rf, ot_ucd, ot_ucs, heM, heM60, he64, he65]; omega)) dX10_greedy_133 ?_
                  try simp (disch := decide) only [ot_rd, ot_rs, ot_rf, ot_ucd, ot_ucs, heM, heM60, he64, he65]
                  refine tt_vv X rfl mX10_242 (q_darkens l g ln ext _ _ _ _ (by simp (disch := decide) only [ot_rd, ot_rs, ot_rf, ot_ucd, ot_ucs, ot_rdf, heM, heM60]; exact hG) (by simp (disch := decide) only [ot_rd, ot_rs, ot_rf, ot_ucd, ot_ucs, ot_rdf, heM, heM60]; omega) (by simp (disch := decide) only [ot_rd, ot_rs, ot_rf, ot_ucd, ot_ucs, ot_rdf, heM, heM60]; omega) (by omega)) (k_60 _ _) ⟨_, rfl, rfl⟩ rfl rfl (Nat.le_of_ble_eq_true rfl) (by decide) (by decide) (by decide) dX10_greedy_134 (fun L134 μ134 hp => ?_)
                  obtain ⟨rfl, rfl⟩ := hp
                  simp (disch := decide) only [ot_rd, ot_rs, ot_rf, ot_ucd, ot_ucs, ot_rdf, heM, heM60]
                  refine tt_aload_n X rfl dX10_greedy_137 ?_
                  refine tt_iload_n X rfl dX10_greedy_138 ?_
                  refine tt_iload X rfl dX10_greedy_139 ?_
                  refine tt_vv X rfl mX10_261 (q_goesOn l g ln ext _ _ _ (by omega) (by simp (disch := decide) only [ot_rd, ot_rs, ot_rf, ot_ucd, ot_ucs, ot_rdf]; rw [he64]; omega)) (k_60 _ _) ⟨_, rfl, rfl⟩ rfl rfl (Nat.le_of_ble_eq_true rfl) (by decide) (by decide) (by decide) dX10_greedy_141 (fun L141 μ141 hp => ?_)
                  obtain ⟨rfl, rfl⟩ := hp
                  simp (disch := decide) only [ot_rd, ot_rs, ot_rf, ot_ucd, ot_ucs, ot_rdf]
                  refine tt_iload X rfl dX10_greedy_144 ?_
                  refine tt_iconst X dX10_greedy_146 ?_
                  refine tt_iadd X dX10_greedy_147 ?_
                  refine tt_istore X dX10_greedy_148 (by decide) ?_
                  refine tt_goto X 63 dX10_greedy_150 (by decide) ?_
                  refine tt_loc [(0, _), (1, _), (2, _), (3, _), (4, _), (5, _), (6, _), (7, _)] ⟨rfl, rfl, rfl, rfl, rfl, rfl, rfl, rfl, trivial⟩ ?_
                  refine tt_gen (fun σ2 hσ => ?_)
                  first
                    | (exfalso; omega)
                    | (have hst : grS nx t (nn - i).toNat (σ 64) (σ 65) = (0, σ 64, σ 65) := grS_stop (Or.inr (by rw [← hnb]; show z77 = -1 ∨ b ≤ 0; omega))
                       have hgr := hI.2.2.2.2.2.2.2.resolve_right (by omega)
                       rw [hst, ← hGG] at hgr
                       have hg2 : (Gc, Gr) = (σ 64, σ 65) := hgr.2.2
                       have hg1 : G1 = 0 + i := hgr.2.1
                       have q64 : σ2 64 = σ 64 := by rw [hσ]; exact he64
                       have q65 : σ2 65 = σ 65 := by rw [hσ]; exact he65
                       refine ih (σ2, i, 0) ⟨by show 0 ≤ i ∧ i ≤ nn; omega, Or.inl rfl, ?_, ?_, ?_, ?_, ?_, ?_⟩ (by show (nn - i).toNat + (0 : Int).toNat < (nn - i).toNat + go.toNat; omega)
                       · show eqx [82, 83, 80, 81, 60, 64, 65] μ σ2
                         rw [hσ]; exact hqM
                       · show ∀ j, j ≠ 41 → σ2 60 j = μ 60 j
                         rw [hσ]; exact heM60
                       · show gWnd (μ 60 2) (σ2 64) (σ2 65)
                         rw [q64, q65]; exact hI.2.2.2.2.1
                       · show ∀ k, 0 ≤ k → k < 64 → σ2 83 k = dk (μ 60 1) (μ 61) (μ 62) (σ2 64) (σ2 65) (μ 63) k
                         rw [q64, q65, hσ]; exact hz77d
                       · show σ2 64 = up1 (μ 64) t (μ 64 t + i)
                         rw [q64]; exact hI.2.2.2.2.2.2.1
                       · refine Or.inr ⟨rfl, by show G1 = i; omega, ?_, ?_⟩
                         · show Gc = σ2 64
                           rw [q64]; exact congrArg Prod.fst hg2
                         · show Gr = σ2 65
                           rw [q65]; exact congrArg Prod.snd hg2)
                    | (have hgr := hI.2.2.2.2.2.2.2.resolve_right (by omega)
                       have q64 : σ2 64 = up1 (σ 64) t (σ 64 t + 1) := by rw [hσ]; simp only [ot_up_uc, ot_ucs]; simp (disch := decide) only [ot_ucd, ot_ucs, he64]
                       have q65 : σ2 65 = up1 (σ 65) (120 * t + σ 64 t) z77 := by rw [hσ]; simp only [ot_up_uc, ot_ucs]; simp (disch := decide) only [ot_ucd, ot_ucs, he64, he65]
                       have hgo := grS_go (nx := nx) (t := t) (i := i) (k := (nn - (i + 1)).toNat) hnb (by omega) (by omega) q64 q65
                       rw [show (nn - (i + 1)).toNat + 1 = (nn - i).toNat by omega] at hgo
                       refine ih (σ2, i + 1, 1) ⟨by show 0 ≤ i + 1 ∧ i + 1 ≤ nn; omega, Or.inr rfl, ?_, ?_, ?_, ?_, ?_, ?_⟩ (by show (nn - (i + 1)).toNat + (1 : Int).toNat < (nn - i).toNat + go.toNat; omega)
                       · show eqx [82, 83, 80, 81, 60, 64, 65] μ σ2
                         rw [hσ]
                         repeat first | exact hqM | refine eqx_uc ?_ (by decide) | refine eqx_up ?_ (by decide)
                       · show ∀ j, j ≠ 41 → σ2 60 j = μ 60 j
                         rw [hσ]; simp (disch := decide) only [ot_rd, ot_rs, ot_rf, ot_ucd, ot_ucs, ot_rdf]; exact heM60
                       · show gWnd (μ 60 2) (σ2 64) (σ2 65)
                         rw [q64, q65]; exact gWnd_push hI.2.2.2.2.1 ht (by omega) (by omega) (fun _ => by omega)
                       · show ∀ k, 0 ≤ k → k < 64 → σ2 83 k = dk (μ 60 1) (μ 61) (μ 62) (σ2 64) (σ2 65) (μ 63) k
                         intro k k1 k2
                         rw [q64, q65, dk_push ht (fun u u1 u2 => (hI.2.2.2.2.1 u u1 u2).1) ⟨hW8.1.1, hcan.1⟩, if_neg (by omega), hσ]
                         simp (disch := decide) only [ot_rd, ot_rs, ot_rf, ot_ucd, ot_ucs, ot_rdf]
                         rw [wr_in ⟨k1, k2⟩, hz77d k k1 k2, hz123e]
                       · show σ2 64 = up1 (μ 64) t (μ 64 t + (i + 1))
                         rw [q64, hI.2.2.2.2.2.2.1, up1_up1, up1_s]; congr 1; omega
                       · refine Or.inl ⟨rfl, ?_, ?_⟩
                         · show (grS nx t nn.toNat (μ 64) (μ 65)).1 = (grS nx t (nn - (i + 1)).toNat (σ2 64) (σ2 65)).1 + (i + 1)
                           rw [hgr.2.1, hgo.1]
                         · show (grS nx t nn.toNat (μ 64) (μ 65)).2 = (grS nx t (nn - (i + 1)).toNat (σ2 64) (σ2 65)).2
                           rw [hgr.2.2, hgo.2])
              · refine tt_aload_n X rfl dX10_greedy_88 ?_
                refine tt_geti X fX10_271 (k_60 _ _) (by decide) (Or.inl rfl) dX10_greedy_89 ?_
                try simp (disch := decide) only [ot_rd, ot_rs, ot_rf, ot_ucd, ot_ucs, heM, heM60, he64, he65]
                refine tt_aload_n X rfl dX10_greedy_92 ?_
                refine tt_iload_n X rfl dX10_greedy_93 ?_
                refine tt_vi X rfl mX10_267 (q_farOf l g ln ext _ pp (by omega) (by simp (disch := decide) only [ot_rd, ot_rs, ot_rf, ot_ucd, ot_ucs, ot_rdf, heM, heM60]; omega) (by simp (disch := decide) only [ot_rd, ot_rs, ot_rf, ot_ucd, ot_ucs, ot_rdf, heM, heM60]; exact gFar_of hWn (by omega) (fun k k1 k2 => by rw [hz77d k k1 k2]; have := dk_bd hG hI.2.2.2.2.1 hs k; omega))) (k_60 _ _) ⟨_, rfl, rfl⟩ rfl rfl (Nat.le_of_ble_eq_true rfl) (by decide) (by decide) (by decide) dX10_greedy_94 (fun z94 L94 μ94 hp => ?_)
                obtain ⟨rfl, e94, hz94⟩ := hp
                replace e94 := e94.symm
                subst e94
                simp (disch := decide) only [ot_rd, ot_rs, ot_rf, ot_ucd, ot_ucs, ot_rdf, heM, heM60] at hz94
                have hv : z94 = F0 := by
                  rw [hz94, farM_congr (d2 := dk (μ 60 1) (μ 61) (μ 62) (σ 64) (σ 65) (μ 63)) hz77d, hF0]
                  exact farM_S (fun k k1 k2 hk => ⟨(hWn pp k (by omega) (by omega) k1 k2).2 hk, dk_out hG hI.2.2.2.2.1 hk⟩)
                have hfc : μ77 60 41 = F0 - b := by rw [hfb, if_neg (by omega)]
                refine tt_icmp_ge X 104 (by first | omega | (simp (disch := decide) only [ot_rd, ot_rs, ot_rf, ot_ucd, ot_ucs, heM, heM60, he64, he65]; omega)) dX10_greedy_97 (by decide) (fun b97 => ?_) (fun b97 => ?_)
                · refine tt_iconst X dX10_greedy_104 ?_
                  refine tt_istore X dX10_greedy_105 (by decide) ?_
                  refine tt_iload X rfl dX10_greedy_107 ?_
                  refine tt_if_eq X 150 (by first | omega | (simp (disch := decide) only [ot_rd, ot_rs, ot_rf, ot_ucd, ot_ucs, heM, heM60, he64, he65]; omega)) dX10_greedy_109 (by decide) (fun b109 => ?_) (fun b109 => ?_)
                  · refine tt_goto X 63 dX10_greedy_150 (by decide) ?_
                    refine tt_loc [(0, _), (1, _), (2, _), (3, _), (4, _), (5, _), (6, _), (7, _)] ⟨rfl, rfl, rfl, rfl, rfl, rfl, rfl, rfl, trivial⟩ ?_
                    refine tt_gen (fun σ2 hσ => ?_)
                    first
                      | (exfalso; omega)
                      | (have hst : grS nx t (nn - i).toNat (σ 64) (σ 65) = (0, σ 64, σ 65) := grS_stop (Or.inr (by rw [← hnb]; show z77 = -1 ∨ b ≤ 0; omega))
                         have hgr := hI.2.2.2.2.2.2.2.resolve_right (by omega)
                         rw [hst, ← hGG] at hgr
                         have hg2 : (Gc, Gr) = (σ 64, σ 65) := hgr.2.2
                         have hg1 : G1 = 0 + i := hgr.2.1
                         have q64 : σ2 64 = σ 64 := by rw [hσ]; exact he64
                         have q65 : σ2 65 = σ 65 := by rw [hσ]; exact he65
                         refine ih (σ2, i, 0) ⟨by show 0 ≤ i ∧ i ≤ nn; omega, Or.inl rfl, ?_, ?_, ?_, ?_, ?_, ?_⟩ (by show (nn - i).toNat + (0 : Int).toNat < (nn - i).toNat + go.toNat; omega)
                         · show eqx [82, 83, 80, 81, 60, 64, 65] μ σ2
                           rw [hσ]; exact hqM
                         · show ∀ j, j ≠ 41 → σ2 60 j = μ 60 j
                           rw [hσ]; exact heM60
                         · show gWnd (μ 60 2) (σ2 64) (σ2 65)
                           rw [q64, q65]; exact hI.2.2.2.2.1
                         · show ∀ k, 0 ≤ k → k < 64 → σ2 83 k = dk (μ 60 1) (μ 61) (μ 62) (σ2 64) (σ2 65) (μ 63) k
                           rw [q64, q65, hσ]; exact hz77d
                         · show σ2 64 = up1 (μ 64) t (μ 64 t + i)
                           rw [q64]; exact hI.2.2.2.2.2.2.1
                         · refine Or.inr ⟨rfl, by show G1 = i; omega, ?_, ?_⟩
                           · show Gc = σ2 64
                             rw [q64]; exact congrArg Prod.fst hg2
                           · show Gr = σ2 65
                             rw [q65]; exact congrArg Prod.snd hg2)
                      | (have hgr := hI.2.2.2.2.2.2.2.resolve_right (by omega)
                         have q64 : σ2 64 = up1 (σ 64) t (σ 64 t + 1) := by rw [hσ]; simp only [ot_up_uc, ot_ucs]; simp (disch := decide) only [ot_ucd, ot_ucs, he64]
                         have q65 : σ2 65 = up1 (σ 65) (120 * t + σ 64 t) z77 := by rw [hσ]; simp only [ot_up_uc, ot_ucs]; simp (disch := decide) only [ot_ucd, ot_ucs, he64, he65]
                         have hgo := grS_go (nx := nx) (t := t) (i := i) (k := (nn - (i + 1)).toNat) hnb (by omega) (by omega) q64 q65
                         rw [show (nn - (i + 1)).toNat + 1 = (nn - i).toNat by omega] at hgo
                         refine ih (σ2, i + 1, 1) ⟨by show 0 ≤ i + 1 ∧ i + 1 ≤ nn; omega, Or.inr rfl, ?_, ?_, ?_, ?_, ?_, ?_⟩ (by show (nn - (i + 1)).toNat + (1 : Int).toNat < (nn - i).toNat + go.toNat; omega)
                         · show eqx [82, 83, 80, 81, 60, 64, 65] μ σ2
                           rw [hσ]
                           repeat first | exact hqM | refine eqx_uc ?_ (by decide) | refine eqx_up ?_ (by decide)
                         · show ∀ j, j ≠ 41 → σ2 60 j = μ 60 j
                           rw [hσ]; simp (disch := decide) only [ot_rd, ot_rs, ot_rf, ot_ucd, ot_ucs, ot_rdf]; exact heM60
                         · show gWnd (μ 60 2) (σ2 64) (σ2 65)
                           rw [q64, q65]; exact gWnd_push hI.2.2.2.2.1 ht (by omega) (by omega) (fun _ => by omega)
                         · show ∀ k, 0 ≤ k → k < 64 → σ2 83 k = dk (μ 60 1) (μ 61) (μ 62) (σ2 64) (σ2 65) (μ 63) k
                           intro k k1 k2
                           rw [q64, q65, dk_push ht (fun u u1 u2 => (hI.2.2.2.2.1 u u1 u2).1) ⟨hW8.1.1, hcan.1⟩, if_neg (by omega), hσ]
                           simp (disch := decide) only [ot_rd, ot_rs, ot_rf, ot_ucd, ot_ucs, ot_rdf]
                           rw [wr_in ⟨k1, k2⟩, hz77d k k1 k2, hz123e]
                         · show σ2 64 = up1 (μ 64) t (μ 64 t + (i + 1))
                           rw [q64, hI.2.2.2.2.2.2.1, up1_up1, up1_s]; congr 1; omega
                         · refine Or.inl ⟨rfl, ?_, ?_⟩
                           · show (grS nx t nn.toNat (μ 64) (μ 65)).1 = (grS nx t (nn - (i + 1)).toNat (σ2 64) (σ2 65)).1 + (i + 1)
                             rw [hgr.2.1, hgo.1]
                           · show (grS nx t nn.toNat (μ 64) (μ 65)).2 = (grS nx t (nn - (i + 1)).toNat (σ2 64) (σ2 65)).2
                             rw [hgr.2.2, hgo.2])
                  · have hnm1 := hnm.resolve_left (by omega)
                    have hcan := mayS_can hnm1.2.1
                    have hlp := hW8.2.1 (σ 64 t - 1) (by omega) (by omega)
                    refine tt_aload_n X rfl dX10_greedy_112 ?_
                    refine tt_aload_n X rfl dX10_greedy_113 ?_
                    refine tt_iload_n X rfl dX10_greedy_114 ?_
                    refine tt_aload_n X rfl dX10_greedy_115 ?_
                    refine tt_getr X fX10_23 (k_60 _ _) (by decide) ⟨nofun, nofun⟩ rfl dX10_greedy_116 ?_
                    refine tt_iload_n X rfl dX10_greedy_119 ?_
                    refine tt_iaload X (k_64 _ _) (by first | omega | (simp (disch := decide) only [ot_rd, ot_rs, ot_rf, ot_ucd, ot_ucs, heM, heM60, he64, he65]; omega)) dX10_greedy_120 ?_
                    try simp (disch := decide) only [ot_rd, ot_rs, ot_rf, ot_ucd, ot_ucs, heM, heM60, he64, he65]
                    refine tt_iconst X dX10_greedy_121 ?_
                    refine tt_isub X dX10_greedy_122 ?_
                    refine tt_vi X rfl mX10_239 (q_woundAt l g ln ext _ _ _ (by omega) (by (try rw [he64]); omega)) (k_60 _ _) ⟨_, rfl, rfl⟩ rfl rfl (Nat.le_of_ble_eq_true rfl) (by decide) (by decide) (by decide) dX10_greedy_123 (fun z123 L123 μ123 hp => ?_)
                    obtain ⟨rfl, e123, hz123⟩ := hp
                    replace e123 := e123.symm
                    subst e123
                    have hz123e : z123 = σ 65 (120 * t + (σ 64 t - 1)) := by rw [hz123]; simp only [he64, he65]
                    clear hz123
                    refine tt_iload X rfl dX10_greedy_126 ?_
                    refine tt_aload_n X rfl dX10_greedy_128 ?_
                    refine tt_getr X fX10_20 (k_60 _ _) (by decide) ⟨nofun, nofun⟩ rfl dX10_greedy_129 ?_
                    refine tt_iload_n X rfl dX10_greedy_132 ?_
                    refine tt_iaload X (k_63 _ _) (by first | omega | (simp (disch := decide) only [ot_rd, ot_rs, ot_rf, ot_ucd, ot_ucs, heM, heM60, he64, he65]; omega)) dX10_greedy_133 ?_
                    try simp (disch := decide) only [ot_rd, ot_rs, ot_rf, ot_ucd, ot_ucs, heM, heM60, he64, he65]
                    refine tt_vv X rfl mX10_242 (q_darkens l g ln ext _ _ _ _ (by simp (disch := decide) only [ot_rd, ot_rs, ot_rf, ot_ucd, ot_ucs, ot_rdf, heM, heM60]; exact hG) (by simp (disch := decide) only [ot_rd, ot_rs, ot_rf, ot_ucd, ot_ucs, ot_rdf, heM, heM60]; omega) (by simp (disch := decide) only [ot_rd, ot_rs, ot_rf, ot_ucd, ot_ucs, ot_rdf, heM, heM60]; omega) (by omega)) (k_60 _ _) ⟨_, rfl, rfl⟩ rfl rfl (Nat.le_of_ble_eq_true rfl) (by decide) (by decide) (by decide) dX10_greedy_134 (fun L134 μ134 hp => ?_)
                    obtain ⟨rfl, rfl⟩ := hp
                    simp (disch := decide) only [ot_rd, ot_rs, ot_rf, ot_ucd, ot_ucs, ot_rdf, heM, heM60]
                    refine tt_aload_n X rfl dX10_greedy_137 ?_
                    refine tt_iload_n X rfl dX10_greedy_138 ?_
                    refine tt_iload X rfl dX10_greedy_139 ?_
                    refine tt_vv X rfl mX10_261 (q_goesOn l g ln ext _ _ _ (by omega) (by simp (disch := decide) only [ot_rd, ot_rs, ot_rf, ot_ucd, ot_ucs, ot_rdf]; rw [he64]; omega)) (k_60 _ _) ⟨_, rfl, rfl⟩ rfl rfl (Nat.le_of_ble_eq_true rfl) (by decide) (by decide) (by decide) dX10_greedy_141 (fun L141 μ141 hp => ?_)
                    obtain ⟨rfl, rfl⟩ := hp
                    simp (disch := decide) only [ot_rd, ot_rs, ot_rf, ot_ucd, ot_ucs, ot_rdf]
                    refine tt_iload X rfl dX10_greedy_144 ?_
                    refine tt_iconst X dX10_greedy_146 ?_
                    refine tt_iadd X dX10_greedy_147 ?_
                    refine tt_istore X dX10_greedy_148 (by decide) ?_
                    refine tt_goto X 63 dX10_greedy_150 (by decide) ?_
                    refine tt_loc [(0, _), (1, _), (2, _), (3, _), (4, _), (5, _), (6, _), (7, _)] ⟨rfl, rfl, rfl, rfl, rfl, rfl, rfl, rfl, trivial⟩ ?_
                    refine tt_gen (fun σ2 hσ => ?_)
                    first
                      | (exfalso; omega)
                      | (have hst : grS nx t (nn - i).toNat (σ 64) (σ 65) = (0, σ 64, σ 65) := grS_stop (Or.inr (by rw [← hnb]; show z77 = -1 ∨ b ≤ 0; omega))
                         have hgr := hI.2.2.2.2.2.2.2.resolve_right (by omega)
                         rw [hst, ← hGG] at hgr
                         have hg2 : (Gc, Gr) = (σ 64, σ 65) := hgr.2.2
                         have hg1 : G1 = 0 + i := hgr.2.1
                         have q64 : σ2 64 = σ 64 := by rw [hσ]; exact he64
                         have q65 : σ2 65 = σ 65 := by rw [hσ]; exact he65
                         refine ih (σ2, i, 0) ⟨by show 0 ≤ i ∧ i ≤ nn; omega, Or.inl rfl, ?_, ?_, ?_, ?_, ?_, ?_⟩ (by show (nn - i).toNat + (0 : Int).toNat < (nn - i).toNat + go.toNat; omega)
                         · show eqx [82, 83, 80, 81, 60, 64, 65] μ σ2
                           rw [hσ]; exact hqM
                         · show ∀ j, j ≠ 41 → σ2 60 j = μ 60 j
                           rw [hσ]; exact heM60
                         · show gWnd (μ 60 2) (σ2 64) (σ2 65)
                           rw [q64, q65]; exact hI.2.2.2.2.1
                         · show ∀ k, 0 ≤ k → k < 64 → σ2 83 k = dk (μ 60 1) (μ 61) (μ 62) (σ2 64) (σ2 65) (μ 63) k
                           rw [q64, q65, hσ]; exact hz77d
                         · show σ2 64 = up1 (μ 64) t (μ 64 t + i)
                           rw [q64]; exact hI.2.2.2.2.2.2.1
                         · refine Or.inr ⟨rfl, by show G1 = i; omega, ?_, ?_⟩
                           · show Gc = σ2 64
                             rw [q64]; exact congrArg Prod.fst hg2
                           · show Gr = σ2 65
                             rw [q65]; exact congrArg Prod.snd hg2)
                      | (have hgr := hI.2.2.2.2.2.2.2.resolve_right (by omega)
                         have q64 : σ2 64 = up1 (σ 64) t (σ 64 t + 1) := by rw [hσ]; simp only [ot_up_uc, ot_ucs]; simp (disch := decide) only [ot_ucd, ot_ucs, he64]
                         have q65 : σ2 65 = up1 (σ 65) (120 * t + σ 64 t) z77 := by rw [hσ]; simp only [ot_up_uc, ot_ucs]; simp (disch := decide) only [ot_ucd, ot_ucs, he64, he65]
                         have hgo := grS_go (nx := nx) (t := t) (i := i) (k := (nn - (i + 1)).toNat) hnb (by omega) (by omega) q64 q65
                         rw [show (nn - (i + 1)).toNat + 1 = (nn - i).toNat by omega] at hgo
                         refine ih (σ2, i + 1, 1) ⟨by show 0 ≤ i + 1 ∧ i + 1 ≤ nn; omega, Or.inr rfl, ?_, ?_, ?_, ?_, ?_, ?_⟩ (by show (nn - (i + 1)).toNat + (1 : Int).toNat < (nn - i).toNat + go.toNat; omega)
                         · show eqx [82, 83, 80, 81, 60, 64, 65] μ σ2
                           rw [hσ]
                           repeat first | exact hqM | refine eqx_uc ?_ (by decide) | refine eqx_up ?_ (by decide)
                         · show ∀ j, j ≠ 41 → σ2 60 j = μ 60 j
                           rw [hσ]; simp (disch := decide) only [ot_rd, ot_rs, ot_rf, ot_ucd, ot_ucs, ot_rdf]; exact heM60
                         · show gWnd (μ 60 2) (σ2 64) (σ2 65)
                           rw [q64, q65]; exact gWnd_push hI.2.2.2.2.1 ht (by omega) (by omega) (fun _ => by omega)
                         · show ∀ k, 0 ≤ k → k < 64 → σ2 83 k = dk (μ 60 1) (μ 61) (μ 62) (σ2 64) (σ2 65) (μ 63) k
                           intro k k1 k2
                           rw [q64, q65, dk_push ht (fun u u1 u2 => (hI.2.2.2.2.1 u u1 u2).1) ⟨hW8.1.1, hcan.1⟩, if_neg (by omega), hσ]
                           simp (disch := decide) only [ot_rd, ot_rs, ot_rf, ot_ucd, ot_ucs, ot_rdf]
                           rw [wr_in ⟨k1, k2⟩, hz77d k k1 k2, hz123e]
                         · show σ2 64 = up1 (μ 64) t (μ 64 t + (i + 1))
                           rw [q64, hI.2.2.2.2.2.2.1, up1_up1, up1_s]; congr 1; omega
                         · refine Or.inl ⟨rfl, ?_, ?_⟩
                           · show (grS nx t nn.toNat (μ 64) (μ 65)).1 = (grS nx t (nn - (i + 1)).toNat (σ2 64) (σ2 65)).1 + (i + 1)
                             rw [hgr.2.1, hgo.1]
                           · show (grS nx t nn.toNat (μ 64) (μ 65)).2 = (grS nx t (nn - (i + 1)).toNat (σ2 64) (σ2 65)).2
                             rw [hgr.2.2, hgo.2])
                · refine tt_iconst X dX10_greedy_100 ?_
                  refine tt_goto X 105 dX10_greedy_101 (by decide) ?_
                  refine tt_istore X dX10_greedy_105 (by decide) ?_
                  refine tt_iload X rfl dX10_greedy_107 ?_
                  refine tt_if_eq X 150 (by first | omega | (simp (disch := decide) only [ot_rd, ot_rs, ot_rf, ot_ucd, ot_ucs, heM, heM60, he64, he65]; omega)) dX10_greedy_109 (by decide) (fun b109 => ?_) (fun b109 => ?_)
                  · refine tt_goto X 63 dX10_greedy_150 (by decide) ?_
                    refine tt_loc [(0, _), (1, _), (2, _), (3, _), (4, _), (5, _), (6, _), (7, _)] ⟨rfl, rfl, rfl, rfl, rfl, rfl, rfl, rfl, trivial⟩ ?_
                    refine tt_gen (fun σ2 hσ => ?_)
                    first
                      | (exfalso; omega)
                      | (have hst : grS nx t (nn - i).toNat (σ 64) (σ 65) = (0, σ 64, σ 65) := grS_stop (Or.inr (by rw [← hnb]; show z77 = -1 ∨ b ≤ 0; omega))
                         have hgr := hI.2.2.2.2.2.2.2.resolve_right (by omega)
                         rw [hst, ← hGG] at hgr
                         have hg2 : (Gc, Gr) = (σ 64, σ 65) := hgr.2.2
                         have hg1 : G1 = 0 + i := hgr.2.1
                         have q64 : σ2 64 = σ 64 := by rw [hσ]; exact he64
                         have q65 : σ2 65 = σ 65 := by rw [hσ]; exact he65
                         refine ih (σ2, i, 0) ⟨by show 0 ≤ i ∧ i ≤ nn; omega, Or.inl rfl, ?_, ?_, ?_, ?_, ?_, ?_⟩ (by show (nn - i).toNat + (0 : Int).toNat < (nn - i).toNat + go.toNat; omega)
                         · show eqx [82, 83, 80, 81, 60, 64, 65] μ σ2
                           rw [hσ]; exact hqM
                         · show ∀ j, j ≠ 41 → σ2 60 j = μ 60 j
                           rw [hσ]; exact heM60
                         · show gWnd (μ 60 2) (σ2 64) (σ2 65)
                           rw [q64, q65]; exact hI.2.2.2.2.1
                         · show ∀ k, 0 ≤ k → k < 64 → σ2 83 k = dk (μ 60 1) (μ 61) (μ 62) (σ2 64) (σ2 65) (μ 63) k
                           rw [q64, q65, hσ]; exact hz77d
                         · show σ2 64 = up1 (μ 64) t (μ 64 t + i)
                           rw [q64]; exact hI.2.2.2.2.2.2.1
                         · refine Or.inr ⟨rfl, by show G1 = i; omega, ?_, ?_⟩
                           · show Gc = σ2 64
                             rw [q64]; exact congrArg Prod.fst hg2
                           · show Gr = σ2 65
                             rw [q65]; exact congrArg Prod.snd hg2)
                      | (have hgr := hI.2.2.2.2.2.2.2.resolve_right (by omega)
                         have q64 : σ2 64 = up1 (σ 64) t (σ 64 t + 1) := by rw [hσ]; simp only [ot_up_uc, ot_ucs]; simp (disch := decide) only [ot_ucd, ot_ucs, he64]
                         have q65 : σ2 65 = up1 (σ 65) (120 * t + σ 64 t) z77 := by rw [hσ]; simp only [ot_up_uc, ot_ucs]; simp (disch := decide) only [ot_ucd, ot_ucs, he64, he65]
                         have hgo := grS_go (nx := nx) (t := t) (i := i) (k := (nn - (i + 1)).toNat) hnb (by omega) (by omega) q64 q65
                         rw [show (nn - (i + 1)).toNat + 1 = (nn - i).toNat by omega] at hgo
                         refine ih (σ2, i + 1, 1) ⟨by show 0 ≤ i + 1 ∧ i + 1 ≤ nn; omega, Or.inr rfl, ?_, ?_, ?_, ?_, ?_, ?_⟩ (by show (nn - (i + 1)).toNat + (1 : Int).toNat < (nn - i).toNat + go.toNat; omega)
                         · show eqx [82, 83, 80, 81, 60, 64, 65] μ σ2
                           rw [hσ]
                           repeat first | exact hqM | refine eqx_uc ?_ (by decide) | refine eqx_up ?_ (by decide)
                         · show ∀ j, j ≠ 41 → σ2 60 j = μ 60 j
                           rw [hσ]; simp (disch := decide) only [ot_rd, ot_rs, ot_rf, ot_ucd, ot_ucs, ot_rdf]; exact heM60
                         · show gWnd (μ 60 2) (σ2 64) (σ2 65)
                           rw [q64, q65]; exact gWnd_push hI.2.2.2.2.1 ht (by omega) (by omega) (fun _ => by omega)
                         · show ∀ k, 0 ≤ k → k < 64 → σ2 83 k = dk (μ 60 1) (μ 61) (μ 62) (σ2 64) (σ2 65) (μ 63) k
                           intro k k1 k2
                           rw [q64, q65, dk_push ht (fun u u1 u2 => (hI.2.2.2.2.1 u u1 u2).1) ⟨hW8.1.1, hcan.1⟩, if_neg (by omega), hσ]
                           simp (disch := decide) only [ot_rd, ot_rs, ot_rf, ot_ucd, ot_ucs, ot_rdf]
                           rw [wr_in ⟨k1, k2⟩, hz77d k k1 k2, hz123e]
                         · show σ2 64 = up1 (μ 64) t (μ 64 t + (i + 1))
                           rw [q64, hI.2.2.2.2.2.2.1, up1_up1, up1_s]; congr 1; omega
                         · refine Or.inl ⟨rfl, ?_, ?_⟩
                           · show (grS nx t nn.toNat (μ 64) (μ 65)).1 = (grS nx t (nn - (i + 1)).toNat (σ2 64) (σ2 65)).1 + (i + 1)
                             rw [hgr.2.1, hgo.1]
                           · show (grS nx t nn.toNat (μ 64) (μ 65)).2 = (grS nx t (nn - (i + 1)).toNat (σ2 64) (σ2 65)).2
                             rw [hgr.2.2, hgo.2])
                  · have hnm1 := hnm.resolve_left (by omega)
                    have hcan := mayS_can hnm1.2.1
                    have hlp := hW8.2.1 (σ 64 t - 1) (by omega) (by omega)
                    refine tt_aload_n X rfl dX10_greedy_112 ?_
                    refine tt_aload_n X rfl dX10_greedy_113 ?_
                    refine tt_iload_n X rfl dX10_greedy_114 ?_
                    refine tt_aload_n X rfl dX10_greedy_115 ?_
                    refine tt_getr X fX10_23 (k_60 _ _) (by decide) ⟨nofun, nofun⟩ rfl dX10_greedy_116 ?_
                    refine tt_iload_n X rfl dX10_greedy_119 ?_
                    refine tt_iaload X (k_64 _ _) (by first | omega | (simp (disch := decide) only [ot_rd, ot_rs, ot_rf, ot_ucd, ot_ucs, heM, heM60, he64, he65]; omega)) dX10_greedy_120 ?_
                    try simp (disch := decide) only [ot_rd, ot_rs, ot_rf, ot_ucd, ot_ucs, heM, heM60, he64, he65]
                    refine tt_iconst X dX10_greedy_121 ?_
                    refine tt_isub X dX10_greedy_122 ?_
                    refine tt_vi X rfl mX10_239 (q_woundAt l g ln ext _ _ _ (by omega) (by (try rw [he64]); omega)) (k_60 _ _) ⟨_, rfl, rfl⟩ rfl rfl (Nat.le_of_ble_eq_true rfl) (by decide) (by decide) (by decide) dX10_greedy_123 (fun z123 L123 μ123 hp => ?_)
                    obtain ⟨rfl, e123, hz123⟩ := hp
                    replace e123 := e123.symm
                    subst e123
                    have hz123e : z123 = σ 65 (120 * t + (σ 64 t - 1)) := by rw [hz123]; simp only [he64, he65]
                    clear hz123
                    refine tt_iload X rfl dX10_greedy_126 ?_
                    refine tt_aload_n X rfl dX10_greedy_128 ?_
                    refine tt_getr X fX10_20 (k_60 _ _) (by decide) ⟨nofun, nofun⟩ rfl dX10_greedy_129 ?_
                    refine tt_iload_n X rfl dX10_greedy_132 ?_
                    refine tt_iaload X (k_63 _ _) (by first | omega | (simp (disch := decide) only [ot_rd, ot_rs, ot_rf, ot_ucd, ot_ucs, heM, heM60, he64, he65]; omega)) dX10_greedy_133 ?_
                    try simp (disch := decide) only [ot_rd, ot_rs, ot_rf, ot_ucd, ot_ucs, heM, heM60, he64, he65]
                    refine tt_vv X rfl mX10_242 (q_darkens l g ln ext _ _ _ _ (by simp (disch := decide) only [ot_rd, ot_rs, ot_rf, ot_ucd, ot_ucs, ot_rdf, heM, heM60]; exact hG) (by simp (disch := decide) only [ot_rd, ot_rs, ot_rf, ot_ucd, ot_ucs, ot_rdf, heM, heM60]; omega) (by simp (disch := decide) only [ot_rd, ot_rs, ot_rf, ot_ucd, ot_ucs, ot_rdf, heM, heM60]; omega) (by omega)) (k_60 _ _) ⟨_, rfl, rfl⟩ rfl rfl (Nat.le_of_ble_eq_true rfl) (by decide) (by decide) (by decide) dX10_greedy_134 (fun L134 μ134 hp => ?_)
                    obtain ⟨rfl, rfl⟩ := hp
                    simp (disch := decide) only [ot_rd, ot_rs, ot_rf, ot_ucd, ot_ucs, ot_rdf, heM, heM60]
                    refine tt_aload_n X rfl dX10_greedy_137 ?_
                    refine tt_iload_n X rfl dX10_greedy_138 ?_
                    refine tt_iload X rfl dX10_greedy_139 ?_
                    refine tt_vv X rfl mX10_261 (q_goesOn l g ln ext _ _ _ (by omega) (by simp (disch := decide) only [ot_rd, ot_rs, ot_rf, ot_ucd, ot_ucs, ot_rdf]; rw [he64]; omega)) (k_60 _ _) ⟨_, rfl, rfl⟩ rfl rfl (Nat.le_of_ble_eq_true rfl) (by decide) (by decide) (by decide) dX10_greedy_141 (fun L141 μ141 hp => ?_)
                    obtain ⟨rfl, rfl⟩ := hp
                    simp (disch := decide) only [ot_rd, ot_rs, ot_rf, ot_ucd, ot_ucs, ot_rdf]
                    refine tt_iload X rfl dX10_greedy_144 ?_
                    refine tt_iconst X dX10_greedy_146 ?_
                    refine tt_iadd X dX10_greedy_147 ?_
                    refine tt_istore X dX10_greedy_148 (by decide) ?_
                    refine tt_goto X 63 dX10_greedy_150 (by decide) ?_
                    refine tt_loc [(0, _), (1, _), (2, _), (3, _), (4, _), (5, _), (6, _), (7, _)] ⟨rfl, rfl, rfl, rfl, rfl, rfl, rfl, rfl, trivial⟩ ?_
                    refine tt_gen (fun σ2 hσ => ?_)
                    first
                      | (exfalso; omega)
                      | (have hst : grS nx t (nn - i).toNat (σ 64) (σ 65) = (0, σ 64, σ 65) := grS_stop (Or.inr (by rw [← hnb]; show z77 = -1 ∨ b ≤ 0; omega))
                         have hgr := hI.2.2.2.2.2.2.2.resolve_right (by omega)
                         rw [hst, ← hGG] at hgr
                         have hg2 : (Gc, Gr) = (σ 64, σ 65) := hgr.2.2
                         have hg1 : G1 = 0 + i := hgr.2.1
                         have q64 : σ2 64 = σ 64 := by rw [hσ]; exact he64
                         have q65 : σ2 65 = σ 65 := by rw [hσ]; exact he65
                         refine ih (σ2, i, 0) ⟨by show 0 ≤ i ∧ i ≤ nn; omega, Or.inl rfl, ?_, ?_, ?_, ?_, ?_, ?_⟩ (by show (nn - i).toNat + (0 : Int).toNat < (nn - i).toNat + go.toNat; omega)
                         · show eqx [82, 83, 80, 81, 60, 64, 65] μ σ2
                           rw [hσ]; exact hqM
                         · show ∀ j, j ≠ 41 → σ2 60 j = μ 60 j
                           rw [hσ]; exact heM60
                         · show gWnd (μ 60 2) (σ2 64) (σ2 65)
                           rw [q64, q65]; exact hI.2.2.2.2.1
                         · show ∀ k, 0 ≤ k → k < 64 → σ2 83 k = dk (μ 60 1) (μ 61) (μ 62) (σ2 64) (σ2 65) (μ 63) k
                           rw [q64, q65, hσ]; exact hz77d
                         · show σ2 64 = up1 (μ 64) t (μ 64 t + i)
                           rw [q64]; exact hI.2.2.2.2.2.2.1
                         · refine Or.inr ⟨rfl, by show G1 = i; omega, ?_, ?_⟩
                           · show Gc = σ2 64
                             rw [q64]; exact congrArg Prod.fst hg2
                           · show Gr = σ2 65
                             rw [q65]; exact congrArg Prod.snd hg2)
                      | (have hgr := hI.2.2.2.2.2.2.2.resolve_right (by omega)
                         have q64 : σ2 64 = up1 (σ 64) t (σ 64 t + 1) := by rw [hσ]; simp only [ot_up_uc, ot_ucs]; simp (disch := decide) only [ot_ucd, ot_ucs, he64]
                         have q65 : σ2 65 = up1 (σ 65) (120 * t + σ 64 t) z77 := by rw [hσ]; simp only [ot_up_uc, ot_ucs]; simp (disch := decide) only [ot_ucd, ot_ucs, he64, he65]
                         have hgo := grS_go (nx := nx) (t := t) (i := i) (k := (nn - (i + 1)).toNat) hnb (by omega) (by omega) q64 q65
                         rw [show (nn - (i + 1)).toNat + 1 = (nn - i).toNat by omega] at hgo
                         refine ih (σ2, i + 1, 1) ⟨by show 0 ≤ i + 1 ∧ i + 1 ≤ nn; omega, Or.inr rfl, ?_, ?_, ?_, ?_, ?_, ?_⟩ (by show (nn - (i + 1)).toNat + (1 : Int).toNat < (nn - i).toNat + go.toNat; omega)
                         · show eqx [82, 83, 80, 81, 60, 64, 65] μ σ2
                           rw [hσ]
                           repeat first | exact hqM | refine eqx_uc ?_ (by decide) | refine eqx_up ?_ (by decide)
                         · show ∀ j, j ≠ 41 → σ2 60 j = μ 60 j
                           rw [hσ]; simp (disch := decide) only [ot_rd, ot_rs, ot_rf, ot_ucd, ot_ucs, ot_rdf]; exact heM60
                         · show gWnd (μ 60 2) (σ2 64) (σ2 65)
                           rw [q64, q65]; exact gWnd_push hI.2.2.2.2.1 ht (by omega) (by omega) (fun _ => by omega)
                         · show ∀ k, 0 ≤ k → k < 64 → σ2 83 k = dk (μ 60 1) (μ 61) (μ 62) (σ2 64) (σ2 65) (μ 63) k
                           intro k k1 k2
                           rw [q64, q65, dk_push ht (fun u u1 u2 => (hI.2.2.2.2.1 u u1 u2).1) ⟨hW8.1.1, hcan.1⟩, if_neg (by omega), hσ]
                           simp (disch := decide) only [ot_rd, ot_rs, ot_rf, ot_ucd, ot_ucs, ot_rdf]
                           rw [wr_in ⟨k1, k2⟩, hz77d k k1 k2, hz123e]
                         · show σ2 64 = up1 (μ 64) t (μ 64 t + (i + 1))
                           rw [q64, hI.2.2.2.2.2.2.1, up1_up1, up1_s]; congr 1; omega
                         · refine Or.inl ⟨rfl, ?_, ?_⟩
                           · show (grS nx t nn.toNat (μ 64) (μ 65)).1 = (grS nx t (nn - (i + 1)).toNat (σ2 64) (σ2 65)).1 + (i + 1)
                             rw [hgr.2.1, hgo.1]
                           · show (grS nx t nn.toNat (μ 64) (μ 65)).2 = (grS nx t (nn - (i + 1)).toNat (σ2 64) (σ2 65)).2
                             rw [hgr.2.2, hgo.2])
        · refine tt_iconst X dX10_greedy_43 ?_
          refine tt_iret X ⟨hr.1, hr.2.1⟩ (by decide) (by decide) dX10_greedy_44 ?_
          exact ⟨rfl, Or.inr ⟨by omega, rfl, rfl⟩⟩

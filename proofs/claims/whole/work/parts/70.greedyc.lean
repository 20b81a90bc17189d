theorem gFar_clo {S n p : Int} {px py cnt row sh dark use want : Int → Int} (hWn : gWnt S want) (hG : gPin S n px py) (hW : gWnd n cnt row) (hs : gShd sh) (hCl : gClo S px py cnt row sh dark use) (hp : 0 ≤ p ∧ p < 4) : gFar want dark p :=
  gFar_of hWn hp (fun k k1 k2 => by
    rw [hCl.1 k k1 k2]
    have := dk_bd hG hW hs k
    omega)
theorem up1_id {f : Int → Int} {t a : Int} (h : f t = a) : up1 f t a = f := by
  funext j; unfold up1; split
  · rename_i w; rw [w, h]
  · rfl
theorem grS_stop {nx : (Int → Int) → (Int → Int) → Int × Int} {t : Int} {k : Nat} {cnt row : Int → Int} (h : k = 0 ∨ (nx cnt row).1 = -1 ∨ (nx cnt row).2 ≤ 0) : grS nx t k cnt row = (0, cnt, row) := by
  cases k with
  | zero => rfl
  | succ k =>
    show (if (nx cnt row).1 = -1 ∨ (nx cnt row).2 ≤ 0 then _ else _) = _
    rw [if_pos (by omega)]
theorem grS_go {nx : (Int → Int) → (Int → Int) → Int × Int} {t a b i : Int} {k : Nat} {cnt row c1 r1 : Int → Int} (hab : (a, b) = nx cnt row) (h1 : a ≠ -1) (h2 : 0 < b) (hk : c1 = up1 cnt t (cnt t + 1)) (hr : r1 = up1 row (120 * t + cnt t) a) : (grS nx t (k + 1) cnt row).1 + i = (grS nx t k c1 r1).1 + (i + 1) ∧ (grS nx t (k + 1) cnt row).2 = (grS nx t k c1 r1).2 := by
  have e : grS nx t (k + 1) cnt row = if (nx cnt row).1 = -1 ∨ (nx cnt row).2 ≤ 0 then (0, cnt, row) else
      ((grS nx t k (up1 cnt t (cnt t + 1)) (up1 row (120 * t + cnt t) (nx cnt row).1)).1 + 1, (grS nx t k (up1 cnt t (cnt t + 1)) (up1 row (120 * t + cnt t) (nx cnt row).1)).2) := rfl
  rw [e, ← hab, hk, hr]
  rw [if_neg (show ¬ (a = -1 ∨ b ≤ 0) by omega)]
  exact ⟨by dsimp only; omega, rfl⟩
set_option maxRecDepth 100000 in
set_option maxHeartbeats 1000000 in
theorem c_goGreedily (l : Launch) (g : ot_G) (ln : Nat) (ext : ot_L) (μ : ot_M) (op arg lw lf lt : Int → Int) (t pp nn w G1 : Int) (Gc Gr : Int → Int) (nx : (Int → Int) → (Int → Int) → Int × Int) (hnx : nx = (fun cnt row => nextS op arg lw lf lt (μ 12 4) (μ 1 11) (μ 1 12) (μ 2) (μ 3) (μ 6) (μ 5) (μ 4) pp t cnt row)) (hGG : (G1, Gc, Gr) = grS nx t nn.toNat (μ 8) (μ 7)) (hG : gPin (μ 1 11) (μ 1 12) (μ 2) (μ 3)) (hCh : gChd (μ 1 11) (μ 1 12) (μ 2) (μ 3) (μ 38) (μ 39)) (hW : gWnd (μ 1 12) (μ 8) (μ 7)) (hCl : gClo (μ 1 11) (μ 2) (μ 3) (μ 8) (μ 7) (μ 6) (μ 34) (μ 35)) (hL : gLaw (μ 13) (μ 14) (μ 15) (μ 12 4) op arg lw lf lt) (hs : gShd (μ 6)) (hw : ∀ k, 0 ≤ k → k < 64 → 0 ≤ μ 5 k ∧ μ 5 k ≤ 9) (hWn : gWnt (μ 1 11) (μ 4)) (ht : 0 ≤ t ∧ t < 3) (hp4 : 0 ≤ pp ∧ pp < 4) (hn : 0 ≤ nn ∧ nn ≤ 40) (hww : 0 ≤ w ∧ w ≤ 2) : ot_C l g yX7_goGreedily cX7_goGreedily 9 (some .int) 6 0 0 [.inr 40, .inl t, .inl pp, .inl nn, .inl w] (LL ln ext) μ (ot_pi (fun r L2 μ2 => L2 = LL ln ext ∧ eqx [38, 39, 36, 16, 40, 34, 35, 7] μ μ2 ∧ gChd (μ 1 11) (μ 1 12) (μ 2) (μ 3) (μ2 38) (μ2 39) ∧ gWnd (μ 1 12) (μ 8) (μ2 7) ∧ gClo (μ 1 11) (μ 2) (μ 3) (μ 8) (μ2 7) (μ 6) (μ2 34) (μ2 35) ∧ μ2 7 = Gr ∧ r = (if w = 0 then G1 else if w = 1 then farS (μ 5) (μ 4) (dk (μ 1 11) (μ 2) (μ 3) Gc Gr (μ 6)) pp else (if Gc t = 0 then -1 else Gr (120 * t + (Gc t - 1)))))) := by
  refine ot_enter (by decide) (Nat.le_of_ble_eq_true rfl) ?_
  intro p e s m args below meth c X hr
  have hNn := hG.2.1
  have hst := hs t ht.1 ht.2
  have hWt := hW t ht.1 ht.2
  refine tt_iconst X dX7_goGreedily_0 ?_
  refine tt_istore X dX7_goGreedily_1 (by decide) ?_
  refine tt_iconst X dX7_goGreedily_3 ?_
  refine tt_istore X dX7_goGreedily_4 (by decide) ?_
  refine tt_loc [(0, _), (1, _), (2, _), (3, _), (4, _), (5, _), (6, _)] ⟨rfl, rfl, rfl, rfl, rfl, rfl, rfl, trivial⟩ ?_
  refine tt_loop (α := ot_M × Int) (fun ((σ, i)) => (nn - i).toNat) (fun ((σ, i)) => (0 ≤ i ∧ i ≤ nn) ∧ eqx [38, 39, 36, 16, 40, 34, 35, 7, 8] μ σ ∧ gChd (μ 1 11) (μ 1 12) (μ 2) (μ 3) (σ 38) (σ 39) ∧ gWnd (μ 1 12) (σ 8) (σ 7) ∧ gClo (μ 1 11) (μ 2) (μ 3) (σ 8) (σ 7) (μ 6) (σ 34) (σ 35) ∧ σ 8 = up1 (μ 8) t (μ 8 t + i) ∧ (grS nx t nn.toNat (μ 8) (μ 7)).1 = (grS nx t (nn - i).toNat (σ 8) (σ 7)).1 + i ∧ (grS nx t nn.toNat (μ 8) (μ 7)).2 = (grS nx t (nn - i).toNat (σ 8) (σ 7)).2) (fun ((σ, i)) => σ) (fun ((σ, i)) => [(0, .inr 40), (1, .inl t), (2, .inl pp), (3, .inl nn), (4, .inl w), (5, .inl i), (6, .inl i)]) (μ, 0) ⟨by show 0 ≤ (0 : Int) ∧ (0 : Int) ≤ nn; omega, eqx_rfl _ _, hCh, hW, hCl, (up1_id (by omega)).symm, by rw [Int.sub_zero]; show _ = _ + 0; omega, by rw [Int.sub_zero]⟩ ?_
  intro a hI ih
  obtain ⟨σ, i⟩ := a
  try dsimp only at hI ih ⊢
  replace hI : (0 ≤ i ∧ i ≤ nn) ∧ eqx [38, 39, 36, 16, 40, 34, 35, 7, 8] μ σ ∧ gChd (μ 1 11) (μ 1 12) (μ 2) (μ 3) (σ 38) (σ 39) ∧ gWnd (μ 1 12) (σ 8) (σ 7) ∧ gClo (μ 1 11) (μ 2) (μ 3) (σ 8) (σ 7) (μ 6) (σ 34) (σ 35) ∧ σ 8 = up1 (μ 8) t (μ 8 t + i) ∧ (grS nx t nn.toNat (μ 8) (μ 7)).1 = (grS nx t (nn - i).toNat (σ 8) (σ 7)).1 + i ∧ (grS nx t nn.toNat (μ 8) (μ 7)).2 = (grS nx t (nn - i).toNat (σ 8) (σ 7)).2 := hI
  have hi := hI.1
  have he : ∀ k, k ∉ [38, 39, 36, 16, 40, 34, 35, 7, 8] → σ k = μ k := hI.2.1
  have hW8 := hI.2.2.2.1 t ht.1 ht.2
  refine tt_iload X rfl dX7_goGreedily_6 ?_
  refine tt_iload_n X rfl dX7_goGreedily_8 ?_
  refine tt_icmp_ge X 57 (by first | omega | (simp (disch := decide) only [ot_rd, ot_rs, ot_rf, ot_ucd, ot_ucs, he]; omega)) dX7_goGreedily_9 (by decide) (fun b9 => ?_) (fun b9 => ?_)
  · obtain ⟨hg1, hg2, hg3⟩ : G1 = i ∧ Gc = σ 8 ∧ Gr = σ 7 := by
      have hstop := grS_stop (nx := nx) (t := t) (k := (nn - i).toNat) (cnt := σ 8) (row := σ 7) (Or.inl (by omega))
      have h1 := hI.2.2.2.2.2.2.1
      have h2 := hI.2.2.2.2.2.2.2
      rw [hstop, ← hGG] at h1 h2
      have h3 : (Gc, Gr) = (σ 8, σ 7) := h2
      exact ⟨by have : G1 = 0 + i := h1; omega, congrArg Prod.fst h3, congrArg Prod.snd h3⟩
    refine tt_gen (fun ρ hρ => ?_)
    have heR : ∀ k, k ∉ [38, 39, 36, 16, 40, 34, 35, 7, 8] → ρ k = μ k := by
      intro k hk; rw [hρ]; first | exact he k hk | exact hq15 k hk
    have hRC : gChd (μ 1 11) (μ 1 12) (μ 2) (μ 3) (ρ 38) (ρ 39) := by rw [hρ]; first | exact hI.2.2.1 | exact hz15b
    have hR8 : ρ 8 = σ 8 := by rw [hρ]; try exact he8
    have hR7 : ρ 7 = σ 7 := by rw [hρ]; try exact he7
    have hRCl : gClo (μ 1 11) (μ 2) (μ 3) (ρ 8) (ρ 7) (μ 6) (ρ 34) (ρ 35) := by rw [hR8, hR7, hρ]; first | exact hI.2.2.2.2.1 | (rw [he15 34 (by decide), he15 35 (by decide)]; exact hI.2.2.2.2.1)
    have hRW : gWnd (μ 1 12) (ρ 8) (ρ 7) := by rw [hR8, hR7]; exact hI.2.2.2.1
    refine tt_aload_n X rfl dX7_goGreedily_57 ?_
    refine tt_getr X fX7_15 (k_40 _ _) (by decide) ⟨nofun, nofun⟩ rfl dX7_goGreedily_58 ?_
    refine tt_iload_n X rfl dX7_goGreedily_61 ?_
    refine tt_vi X rfl mX7_66 (c_farOf l g ln ext _ _ (by omega) (by simp (disch := decide) only [ot_rd, ot_rs, ot_rf, ot_ucd, ot_ucs, ot_rdf, heR]; exact gFar_clo hWn hG hRW hs hRCl hp4)) (k_33 _ _) ⟨_, rfl, rfl⟩ rfl rfl (Nat.le_of_ble_eq_true rfl) (by decide) (by decide) (by decide) dX7_goGreedily_62 (fun z62 L62 μ62 hp => ?_)
    obtain ⟨rfl, e62, hz62⟩ := hp
    replace e62 := e62.symm
    subst e62
    simp (disch := decide) only [ot_rd, ot_rs, ot_rf, ot_ucd, ot_ucs, ot_rdf, heR] at hz62
    refine tt_istore X dX7_goGreedily_65 (by decide) ?_
    refine tt_aload_n X rfl dX7_goGreedily_67 ?_
    refine tt_getr X fX7_9 (k_40 _ _) (by decide) ⟨nofun, nofun⟩ rfl dX7_goGreedily_68 ?_
    refine tt_iload_n X rfl dX7_goGreedily_71 ?_
    refine tt_vi X rfl mX7_26 (c_lastPin l g ln ext _ _ (by omega) (by have := (hRW t ht.1 ht.2).1; omega)) (k_1 _ _) ⟨_, rfl, rfl⟩ rfl rfl (Nat.le_of_ble_eq_true rfl) (by decide) (by decide) (by decide) dX7_goGreedily_72 (fun z72 L72 μ72 hp => ?_)
    obtain ⟨rfl, e72, hz72⟩ := hp
    replace e72 := e72.symm
    subst e72
    refine tt_istore X dX7_goGreedily_75 (by decide) ?_
    refine tt_iconst X dX7_goGreedily_77 ?_
    refine tt_istore X dX7_goGreedily_78 (by decide) ?_
    have hWr := (hRW t ht.1 ht.2)
    have hR8t : ρ 8 t = μ 8 t + i := by rw [hR8, hI.2.2.2.2.2.1, up1_s]
    have hz62' : z62 = farS (μ 5) (μ 4) (dk (μ 1 11) (μ 2) (μ 3) Gc Gr (μ 6)) pp := by
      rw [hz62, hg2, hg3]
      exact farS_congr (fun k k1 k2 => ⟨rfl, rfl, by rw [hRCl.1 k k1 k2, hR8, hR7]⟩)
    have hz72' : z72 = (if Gc t = 0 then -1 else Gr (120 * t + (Gc t - 1))) := by
      rw [hz72, hg2, hg3, ← hR8, ← hR7]
      by_cases w : 1 ≤ ρ 8 t
      · rw [if_pos w, if_neg (by omega), show t * 120 + (ρ 8 t - 1) = 120 * t + (ρ 8 t - 1) by omega]
      · rw [if_neg w, if_pos (by omega)]
    subst hg1
    refine tt_loc [(0, _), (1, _), (2, _), (3, _), (4, _), (5, _), (6, _), (7, _), (8, _)] ⟨rfl, rfl, rfl, rfl, rfl, rfl, rfl, rfl, rfl, trivial⟩ ?_
    refine tt_loop (α := ot_M × Int) (fun ((τ, j)) => (G1 - j).toNat) (fun ((τ, j)) => (0 ≤ j ∧ j ≤ G1) ∧ eqx [38, 39, 36, 16, 40, 34, 35, 7, 8] μ τ ∧ gChd (μ 1 11) (μ 1 12) (μ 2) (μ 3) (τ 38) (τ 39) ∧ gWnd (μ 1 12) (τ 8) (τ 7) ∧ gClo (μ 1 11) (μ 2) (μ 3) (τ 8) (τ 7) (μ 6) (τ 34) (τ 35) ∧ τ 8 = up1 (μ 8) t (μ 8 t + (G1 - j)) ∧ τ 7 = Gr) (fun ((τ, j)) => τ) (fun ((τ, j)) => [(0, .inr 40), (1, .inl t), (2, .inl pp), (3, .inl nn), (4, .inl w), (5, .inl G1), (6, .inl z62), (7, .inl z72), (8, .inl j)]) (ρ, 0) ⟨by show 0 ≤ (0 : Int) ∧ (0 : Int) ≤ G1; omega, heR, hRC, hRW, hRCl, by rw [hR8, hI.2.2.2.2.2.1, Int.sub_zero], by rw [hR7, hg3]⟩ ?_
    intro a hIj ihj
    obtain ⟨τ, j⟩ := a
    try dsimp only at hIj ihj ⊢
    replace hIj : (0 ≤ j ∧ j ≤ G1) ∧ eqx [38, 39, 36, 16, 40, 34, 35, 7, 8] μ τ ∧ gChd (μ 1 11) (μ 1 12) (μ 2) (μ 3) (τ 38) (τ 39) ∧ gWnd (μ 1 12) (τ 8) (τ 7) ∧ gClo (μ 1 11) (μ 2) (μ 3) (τ 8) (τ 7) (μ 6) (τ 34) (τ 35) ∧ τ 8 = up1 (μ 8) t (μ 8 t + (G1 - j)) ∧ τ 7 = Gr := hIj
    have hj := hIj.1
    have heT : ∀ k, k ∉ [38, 39, 36, 16, 40, 34, 35, 7, 8] → τ k = μ k := hIj.2.1
    have hT8 := (hIj.2.2.2.1 t ht.1 ht.2).1
    have hT8t : τ 8 t = μ 8 t + (G1 - j) := by rw [hIj.2.2.2.2.2.1, up1_s]
    refine tt_iload X rfl dX7_goGreedily_80 ?_
    refine tt_iload X rfl dX7_goGreedily_82 ?_
    refine tt_icmp_ge X 101 (by first | omega | (simp (disch := decide) only [ot_rd, ot_rs, ot_rf, ot_ucd, ot_ucs, heT]; omega)) dX7_goGreedily_84 (by decide) (fun b84 => ?_) (fun b84 => ?_)
    · refine tt_iload X rfl dX7_goGreedily_101 ?_
      refine tt_if_ne X 111 (by first | omega | (simp (disch := decide) only [ot_rd, ot_rs, ot_rf, ot_ucd, ot_ucs, heT]; omega)) dX7_goGreedily_103 (by decide) (fun b103 => ?_) (fun b103 => ?_)
      · refine tt_iload X rfl dX7_goGreedily_111 ?_
        refine tt_iconst X dX7_goGreedily_113 ?_
        refine tt_icmp_ne X 122 (by first | omega | (simp (disch := decide) only [ot_rd, ot_rs, ot_rf, ot_ucd, ot_ucs, heT]; omega)) dX7_goGreedily_114 (by decide) (fun b114 => ?_) (fun b114 => ?_)
        · refine tt_iload X rfl dX7_goGreedily_122 ?_
          refine tt_iret X ⟨hr.1, hr.2.1⟩ (by decide) (by decide) dX7_goGreedily_124 ?_
          have e8 : τ 8 = μ 8 := by rw [hIj.2.2.2.2.2.1, show G1 - j = 0 by omega]; exact up1_id (by omega)
          have hcl := hIj.2.2.2.2.1
          have hwd := hIj.2.2.2.1
          rw [e8] at hcl hwd
          refine ⟨rfl, ?_, hIj.2.2.1, hwd, hcl, hIj.2.2.2.2.2.2, ?_⟩
          · intro k hk
            by_cases k8 : k = 8
            · rw [k8]; exact e8
            · exact heT k (by intro hk2; apply hk; revert hk2; simp; omega)
          · first | (rw [if_pos (by omega)]; done) | (rw [if_neg (by omega), if_pos (by omega)]; exact hz62') | (rw [if_neg (by omega), if_neg (by omega)]; exact hz72')
        · refine tt_iload X rfl dX7_goGreedily_117 ?_
          refine tt_goto X 124 dX7_goGreedily_119 (by decide) ?_
          refine tt_iret X ⟨hr.1, hr.2.1⟩ (by decide) (by decide) dX7_goGreedily_124 ?_
          have e8 : τ 8 = μ 8 := by rw [hIj.2.2.2.2.2.1, show G1 - j = 0 by omega]; exact up1_id (by omega)
          have hcl := hIj.2.2.2.2.1
          have hwd := hIj.2.2.2.1
          rw [e8] at hcl hwd
          refine ⟨rfl, ?_, hIj.2.2.1, hwd, hcl, hIj.2.2.2.2.2.2, ?_⟩
          · intro k hk
            by_cases k8 : k = 8
            · rw [k8]; exact e8
            · exact heT k (by intro hk2; apply hk; revert hk2; simp; omega)
          · first | (rw [if_pos (by omega)]; done) | (rw [if_neg (by omega), if_pos (by omega)]; exact hz62') | (rw [if_neg (by omega), if_neg (by omega)]; exact hz72')
      · refine tt_iload X rfl dX7_goGreedily_106 ?_
        refine tt_goto X 124 dX7_goGreedily_108 (by decide) ?_
        refine tt_iret X ⟨hr.1, hr.2.1⟩ (by decide) (by decide) dX7_goGreedily_124 ?_
        have e8 : τ 8 = μ 8 := by rw [hIj.2.2.2.2.2.1, show G1 - j = 0 by omega]; exact up1_id (by omega)
        have hcl := hIj.2.2.2.2.1
        have hwd := hIj.2.2.2.1
        rw [e8] at hcl hwd
        refine ⟨rfl, ?_, hIj.2.2.1, hwd, hcl, hIj.2.2.2.2.2.2, ?_⟩
        · intro k hk
          by_cases k8 : k = 8
          · rw [k8]; exact e8
          · exact heT k (by intro hk2; apply hk; revert hk2; simp; omega)
        · first | (rw [if_pos (by omega)]; done) | (rw [if_neg (by omega), if_pos (by omega)]; exact hz62') | (rw [if_neg (by omega), if_neg (by omega)]; exact hz72')
    · refine tt_aload_n X rfl dX7_goGreedily_87 ?_
      refine tt_getr X fX7_15 (k_40 _ _) (by decide) ⟨nofun, nofun⟩ rfl dX7_goGreedily_88 ?_
      refine tt_iload_n X rfl dX7_goGreedily_91 ?_
      refine tt_vv X rfl mX7_69 (c_goBack l g ln ext _ _ (by simp (disch := decide) only [heT]; exact hG) (by simp (disch := decide) only [heT]; exact hIj.2.2.1) (by simp (disch := decide) only [heT]; exact hIj.2.2.2.1) (by simp (disch := decide) only [heT]; exact hIj.2.2.2.2.1) (by omega)) (k_33 _ _) ⟨_, rfl, rfl⟩ rfl rfl (Nat.le_of_ble_eq_true rfl) (by decide) (by decide) (by decide) dX7_goGreedily_92 (fun L92 μ92 hp => ?_)
      obtain ⟨rfl, f2, z2, D2, U2, hC92, hCl92, rfl⟩ := hp
      simp (disch := decide) only [heT] at hC92 hCl92
      refine tt_iinc X dX7_goGreedily_95 rfl (by decide) ?_
      refine tt_goto X 80 dX7_goGreedily_98 (by decide) ?_
      refine tt_loc [(0, _), (1, _), (2, _), (3, _), (4, _), (5, _), (6, _), (7, _), (8, _)] ⟨rfl, rfl, rfl, rfl, rfl, rfl, rfl, rfl, rfl, trivial⟩ ?_
      refine tt_gen (fun τ2 hτ => ?_)
      have q8 : τ2 8 = up1 (τ 8) t (max (τ 8 t - 1) 0) := by rw [hτ]; simp (disch := decide) only [ot_rd, ot_rs, ot_rf, ot_ucd, ot_ucs, ot_rdf]
      have q7 : τ2 7 = τ 7 := by rw [hτ]; simp (disch := decide) only [ot_rd, ot_rs, ot_rf, ot_ucd, ot_ucs, ot_rdf]
      refine ihj (τ2, j + 1) ⟨by show 0 ≤ j + 1 ∧ j + 1 ≤ G1; omega, ?_, ?_, ?_, ?_, ?_, ?_⟩ (by show (G1 - (j + 1)).toNat < (G1 - j).toNat; omega)
      · show eqx [38, 39, 36, 16, 40, 34, 35, 7, 8] μ τ2
        rw [hτ]
        repeat first | exact hIj.2.1 | refine eqx_uc ?_ (by decide) | refine eqx_up ?_ (by decide)
      · show gChd (μ 1 11) (μ 1 12) (μ 2) (μ 3) (τ2 38) (τ2 39)
        rw [hτ]; simp (disch := decide) only [ot_rd, ot_rs, ot_rf, ot_ucd, ot_ucs, ot_rdf]; exact hC92
      · show gWnd (μ 1 12) (τ2 8) (τ2 7)
        rw [q8, q7]; exact gWnd_pop hIj.2.2.2.1 (by omega)
      · show gClo (μ 1 11) (μ 2) (μ 3) (τ2 8) (τ2 7) (μ 6) (τ2 34) (τ2 35)
        rw [q8, q7, hτ]; simp (disch := decide) only [ot_rd, ot_rs, ot_rf, ot_ucd, ot_ucs, ot_rdf]; exact hCl92
      · show τ2 8 = up1 (μ 8) t (μ 8 t + (G1 - (j + 1)))
        rw [q8, hIj.2.2.2.2.2.1, up1_up1, up1_s]; congr 1; omega
      · show τ2 7 = Gr
        rw [q7]; exact hIj.2.2.2.2.2.2
  · refine tt_aload_n X rfl dX7_goGreedily_12 ?_
    refine tt_iload_n X rfl dX7_goGreedily_13 ?_
    refine tt_iload_n X rfl dX7_goGreedily_14 ?_
    refine tt_vv X rfl mX7_59 (c_seekNext l g ln ext _ op arg lw lf lt _ _ (by simp (disch := decide) only [ot_rd, ot_rs, ot_rf, ot_ucd, ot_ucs, ot_rdf, he]; exact hG) (by simp (disch := decide) only [ot_rd, ot_rs, ot_rf, ot_ucd, ot_ucs, ot_rdf, he]; exact hI.2.2.1) (by simp (disch := decide) only [ot_rd, ot_rs, ot_rf, ot_ucd, ot_ucs, ot_rdf, he]; exact hI.2.2.2.1) (by simp (disch := decide) only [ot_rd, ot_rs, ot_rf, ot_ucd, ot_ucs, ot_rdf, he]; exact hI.2.2.2.2.1) (by simp (disch := decide) only [ot_rd, ot_rs, ot_rf, ot_ucd, ot_ucs, ot_rdf, he]; exact hL) (by simp (disch := decide) only [ot_rd, ot_rs, ot_rf, ot_ucd, ot_ucs, ot_rdf, he]; exact hs) (by simp (disch := decide) only [ot_rd, ot_rs, ot_rf, ot_ucd, ot_ucs, ot_rdf, he]; exact hw) (fun q q1 q2 => by simp (disch := decide) only [ot_rd, ot_rs, ot_rf, ot_ucd, ot_ucs, ot_rdf, he]; exact gFar_clo hWn hG hI.2.2.2.1 hs hI.2.2.2.2.1 ⟨q1, q2⟩) (by omega) (by omega)) (k_40 _ _) ⟨_, rfl, rfl⟩ rfl rfl (Nat.le_of_ble_eq_true rfl) (by decide) (by decide) (by decide) dX7_goGreedily_15 (fun L15 μ15 hp => ?_)
    obtain ⟨rfl, hq15a, hz15b, hz15c, hz15d, hz15e⟩ := hp
    simp (disch := decide) only [ot_rd, ot_rs, ot_rf, ot_ucd, ot_ucs, ot_rdf, he] at hz15b hz15c hz15d
    have he15 : ∀ k, k ∉ [38, 39, 36, 16, 40] → μ15 k = σ k := hq15a
    have he8 : μ15 8 = σ 8 := he15 8 (by decide)
    have he7 : μ15 7 = σ 7 := he15 7 (by decide)
    have hq15 : eqx [38, 39, 36, 16, 40, 34, 35, 7, 8] μ μ15 := eqx_trans hI.2.1 (eqx_mono hq15a (by intro k hk hk2; apply hk; revert hk2; simp; omega))
    have heM : ∀ k, k ∉ [38, 39, 36, 16, 40, 34, 35, 7, 8] → μ15 k = μ k := hq15
    have hnm := nextS_may hz15c
    have hnb : (μ15 40 2, μ15 40 5) = nx (σ 8) (σ 7) := by rw [hz15c, hnx]
    refine tt_aload_n X rfl dX7_goGreedily_18 ?_
    refine tt_geti X fX7_19 (k_40 _ _) (by decide) (Or.inl rfl) dX7_goGreedily_19 ?_
    try simp (disch := decide) only [ot_rd, ot_rs, ot_rf, ot_ucd, ot_ucs, heM, he]
    refine tt_iconst X dX7_goGreedily_22 ?_
    refine tt_icmp_eq X 57 (by omega) dX7_goGreedily_23 (by decide) (fun b23 => ?_) (fun b23 => ?_)
    · obtain ⟨hg1, hg2, hg3⟩ : G1 = i ∧ Gc = σ 8 ∧ Gr = σ 7 := by
        have hstop := grS_stop (nx := nx) (t := t) (k := (nn - i).toNat) (cnt := σ 8) (row := σ 7) (Or.inr (Or.inl (by rw [← hnb]; show μ15 40 2 = -1; omega)))
        have h1 := hI.2.2.2.2.2.2.1
        have h2 := hI.2.2.2.2.2.2.2
        rw [hstop, ← hGG] at h1 h2
        have h3 : (Gc, Gr) = (σ 8, σ 7) := h2
        exact ⟨by have : G1 = 0 + i := h1; omega, congrArg Prod.fst h3, congrArg Prod.snd h3⟩
      refine tt_gen (fun ρ hρ => ?_)
      have heR : ∀ k, k ∉ [38, 39, 36, 16, 40, 34, 35, 7, 8] → ρ k = μ k := by
        intro k hk; rw [hρ]; first | exact he k hk | exact hq15 k hk
      have hRC : gChd (μ 1 11) (μ 1 12) (μ 2) (μ 3) (ρ 38) (ρ 39) := by rw [hρ]; first | exact hI.2.2.1 | exact hz15b
      have hR8 : ρ 8 = σ 8 := by rw [hρ]; try exact he8
      have hR7 : ρ 7 = σ 7 := by rw [hρ]; try exact he7
      have hRCl : gClo (μ 1 11) (μ 2) (μ 3) (ρ 8) (ρ 7) (μ 6) (ρ 34) (ρ 35) := by rw [hR8, hR7, hρ]; first | exact hI.2.2.2.2.1 | (rw [he15 34 (by decide), he15 35 (by decide)]; exact hI.2.2.2.2.1)
      have hRW : gWnd (μ 1 12) (ρ 8) (ρ 7) := by rw [hR8, hR7]; exact hI.2.2.2.1
      refine tt_aload_n X rfl dX7_goGreedily_57 ?_
      refine tt_getr X fX7_15 (k_40 _ _) (by decide) ⟨nofun, nofun⟩ rfl dX7_goGreedily_58 ?_
      refine tt_iload_n X rfl dX7_goGreedily_61 ?_
      refine tt_vi X rfl mX7_66 (c_farOf l g ln ext _ _ (by omega) (by simp (disch := decide) only [ot_rd, ot_rs, ot_rf, ot_ucd, ot_ucs, ot_rdf, heR]; exact gFar_clo hWn hG hRW hs hRCl hp4)) (k_33 _ _) ⟨_, rfl, rfl⟩ rfl rfl (Nat.le_of_ble_eq_true rfl) (by decide) (by decide) (by decide) dX7_goGreedily_62 (fun z62 L62 μ62 hp => ?_)
      obtain ⟨rfl, e62, hz62⟩ := hp
      replace e62 := e62.symm
      subst e62
      simp (disch := decide) only [ot_rd, ot_rs, ot_rf, ot_ucd, ot_ucs, ot_rdf, heR] at hz62
      refine tt_istore X dX7_goGreedily_65 (by decide) ?_
      refine tt_aload_n X rfl dX7_goGreedily_67 ?_
      refine tt_getr X fX7_9 (k_40 _ _) (by decide) ⟨nofun, nofun⟩ rfl dX7_goGreedily_68 ?_
      refine tt_iload_n X rfl dX7_goGreedily_71 ?_
      refine tt_vi X rfl mX7_26 (c_lastPin l g ln ext _ _ (by omega) (by have := (hRW t ht.1 ht.2).1; omega)) (k_1 _ _) ⟨_, rfl, rfl⟩ rfl rfl (Nat.le_of_ble_eq_true rfl) (by decide) (by decide) (by decide) dX7_goGreedily_72 (fun z72 L72 μ72 hp => ?_)
      obtain ⟨rfl, e72, hz72⟩ := hp
      replace e72 := e72.symm
      subst e72
      refine tt_istore X dX7_goGreedily_75 (by decide) ?_
      refine tt_iconst X dX7_goGreedily_77 ?_
      refine tt_istore X dX7_goGreedily_78 (by decide) ?_
      have hWr := (hRW t ht.1 ht.2)
      have hR8t : ρ 8 t = μ 8 t + i := by rw [hR8, hI.2.2.2.2.2.1, up1_s]
      have hz62' : z62 = farS (μ 5) (μ 4) (dk (μ 1 11) (μ 2) (μ 3) Gc Gr (μ 6)) pp := by
        rw [hz62, hg2, hg3]
        exact farS_congr (fun k k1 k2 => ⟨rfl, rfl, by rw [hRCl.1 k k1 k2, hR8, hR7]⟩)
      have hz72' : z72 = (if Gc t = 0 then -1 else Gr (120 * t + (Gc t - 1))) := by
        rw [hz72, hg2, hg3, ← hR8, ← hR7]
        by_cases w : 1 ≤ ρ 8 t
        · rw [if_pos w, if_neg (by omega), show t * 120 + (ρ 8 t - 1) = 120 * t + (ρ 8 t - 1) by omega]
        · rw [if_neg w, if_pos (by omega)]
      subst hg1
      refine tt_loc [(0, _), (1, _), (2, _), (3, _), (4, _), (5, _), (6, _), (7, _), (8, _)] ⟨rfl, rfl, rfl, rfl, rfl, rfl, rfl, rfl, rfl, trivial⟩ ?_
      refine tt_loop (α := ot_M × Int) (fun ((τ, j)) => (G1 - j).toNat) (fun ((τ, j)) => (0 ≤ j ∧ j ≤ G1) ∧ eqx [38, 39, 36, 16, 40, 34, 35, 7, 8] μ τ ∧ gChd (μ 1 11) (μ 1 12) (μ 2) (μ 3) (τ 38) (τ 39) ∧ gWnd (μ 1 12) (τ 8) (τ 7) ∧ gClo (μ 1 11) (μ 2) (μ 3) (τ 8) (τ 7) (μ 6) (τ 34) (τ 35) ∧ τ 8 = up1 (μ 8) t (μ 8 t + (G1 - j)) ∧ τ 7 = Gr) (fun ((τ, j)) => τ) (fun ((τ, j)) => [(0, .inr 40), (1, .inl t), (2, .inl pp), (3, .inl nn), (4, .inl w), (5, .inl G1), (6, .inl z62), (7, .inl z72), (8, .inl j)]) (ρ, 0) ⟨by show 0 ≤ (0 : Int) ∧ (0 : Int) ≤ G1; omega, heR, hRC, hRW, hRCl, by rw [hR8, hI.2.2.2.2.2.1, Int.sub_zero], by rw [hR7, hg3]⟩ ?_
      intro a hIj ihj
      obtain ⟨τ, j⟩ := a
      try dsimp only at hIj ihj ⊢
      replace hIj : (0 ≤ j ∧ j ≤ G1) ∧ eqx [38, 39, 36, 16, 40, 34, 35, 7, 8] μ τ ∧ gChd (μ 1 11) (μ 1 12) (μ 2) (μ 3) (τ 38) (τ 39) ∧ gWnd (μ 1 12) (τ 8) (τ 7) ∧ gClo (μ 1 11) (μ 2) (μ 3) (τ 8) (τ 7) (μ 6) (τ 34) (τ 35) ∧ τ 8 = up1 (μ 8) t (μ 8 t + (G1 - j)) ∧ τ 7 = Gr := hIj
      have hj := hIj.1
      have heT : ∀ k, k ∉ [38, 39, 36, 16, 40, 34, 35, 7, 8] → τ k = μ k := hIj.2.1
      have hT8 := (hIj.2.2.2.1 t ht.1 ht.2).1
      have hT8t : τ 8 t = μ 8 t + (G1 - j) := by rw [hIj.2.2.2.2.2.1, up1_s]
      refine tt_iload X rfl dX7_goGreedily_80 ?_
      refine tt_iload X rfl dX7_goGreedily_82 ?_
      refine tt_icmp_ge X 101 (by first | omega | (simp (disch := decide) only [ot_rd, ot_rs, ot_rf, ot_ucd, ot_ucs, heT]; omega)) dX7_goGreedily_84 (by decide) (fun b84 => ?_) (fun b84 => ?_)
      · refine tt_iload X rfl dX7_goGreedily_101 ?_
        refine tt_if_ne X 111 (by first | omega | (simp (disch := decide) only [ot_rd, ot_rs, ot_rf, ot_ucd, ot_ucs, heT]; omega)) dX7_goGreedily_103 (by decide) (fun b103 => ?_) (fun b103 => ?_)
        · refine tt_iload X rfl dX7_goGreedily_111 ?_
          refine tt_iconst X dX7_goGreedily_113 ?_
          refine tt_icmp_ne X 122 (by first | omega | (simp (disch := decide) only [ot_rd, ot_rs, ot_rf, ot_ucd, ot_ucs, heT]; omega)) dX7_goGreedily_114 (by decide) (fun b114 => ?_) (fun b114 => ?_)
          · refine tt_iload X rfl dX7_goGreedily_122 ?_
            refine tt_iret X ⟨hr.1, hr.2.1⟩ (by decide) (by decide) dX7_goGreedily_124 ?_
            have e8 : τ 8 = μ 8 := by rw [hIj.2.2.2.2.2.1, show G1 - j = 0 by omega]; exact up1_id (by omega)
            have hcl := hIj.2.2.2.2.1
            have hwd := hIj.2.2.2.1
            rw [e8] at hcl hwd
            refine ⟨rfl, ?_, hIj.2.2.1, hwd, hcl, hIj.2.2.2.2.2.2, ?_⟩
            · intro k hk
              by_cases k8 : k = 8
              · rw [k8]; exact e8
              · exact heT k (by intro hk2; apply hk; revert hk2; simp; omega)
            · first | (rw [if_pos (by omega)]; done) | (rw [if_neg (by omega), if_pos (by omega)]; exact hz62') | (rw [if_neg (by omega), if_neg (by omega)]; exact hz72')
          · refine tt_iload X rfl dX7_goGreedily_117 ?_
            refine tt_goto X 124 dX7_goGreedily_119 (by decide) ?_
            refine tt_iret X ⟨hr.1, hr.2.1⟩ (by decide) (by decide) dX7_goGreedily_124 ?_
            have e8 : τ 8 = μ 8 := by rw [hIj.2.2.2.2.2.1, show G1 - j = 0 by omega]; exact up1_id (by omega)
            have hcl := hIj.2.2.2.2.1
            have hwd := hIj.2.2.2.1
            rw [e8] at hcl hwd
            refine ⟨rfl, ?_, hIj.2.2.1, hwd, hcl, hIj.2.2.2.2.2.2, ?_⟩
            · intro k hk
              by_cases k8 : k = 8
              · rw [k8]; exact e8
              · exact heT k (by intro hk2; apply hk; revert hk2; simp; omega)
            · first | (rw [if_pos (by omega)]; done) | (rw [if_neg (by omega), if_pos (by omega)]; exact hz62') | (rw [if_neg (by omega), if_neg (by omega)]; exact hz72')
        · refine tt_iload X rfl dX7_goGreedily_106 ?_
          refine tt_goto X 124 dX7_goGreedily_108 (by decide) ?_
          refine tt_iret X ⟨hr.1, hr.2.1⟩ (by decide) (by decide) dX7_goGreedily_124 ?_
          have e8 : τ 8 = μ 8 := by rw [hIj.2.2.2.2.2.1, show G1 - j = 0 by omega]; exact up1_id (by omega)
          have hcl := hIj.2.2.2.2.1
          have hwd := hIj.2.2.2.1
          rw [e8] at hcl hwd
          refine ⟨rfl, ?_, hIj.2.2.1, hwd, hcl, hIj.2.2.2.2.2.2, ?_⟩
          · intro k hk
            by_cases k8 : k = 8
            · rw [k8]; exact e8
            · exact heT k (by intro hk2; apply hk; revert hk2; simp; omega)
          · first | (rw [if_pos (by omega)]; done) | (rw [if_neg (by omega), if_pos (by omega)]; exact hz62') | (rw [if_neg (by omega), if_neg (by omega)]; exact hz72')
      · refine tt_aload_n X rfl dX7_goGreedily_87 ?_
        refine tt_getr X fX7_15 (k_40 _ _) (by decide) ⟨nofun, nofun⟩ rfl dX7_goGreedily_88 ?_
        refine tt_iload_n X rfl dX7_goGreedily_91 ?_
        refine tt_vv X rfl mX7_69 (c_goBack l g ln ext _ _ (by simp (disch := decide) only [heT]; exact hG) (by simp (disch := decide) only [heT]; exact hIj.2.2.1) (by simp (disch := decide) only [heT]; exact hIj.2.2.2.1) (by simp (disch := decide) only [heT]; exact hIj.2.2.2.2.1) (by omega)) (k_33 _ _) ⟨_, rfl, rfl⟩ rfl rfl (Nat.le_of_ble_eq_true rfl) (by decide) (by decide) (by decide) dX7_goGreedily_92 (fun L92 μ92 hp => ?_)
        obtain ⟨rfl, f2, z2, D2, U2, hC92, hCl92, rfl⟩ := hp
        simp (disch := decide) only [heT] at hC92 hCl92
        refine tt_iinc X dX7_goGreedily_95 rfl (by decide) ?_
        refine tt_goto X 80 dX7_goGreedily_98 (by decide) ?_
        refine tt_loc [(0, _), (1, _), (2, _), (3, _), (4, _), (5, _), (6, _), (7, _), (8, _)] ⟨rfl, rfl, rfl, rfl, rfl, rfl, rfl, rfl, rfl, trivial⟩ ?_
        refine tt_gen (fun τ2 hτ => ?_)
        have q8 : τ2 8 = up1 (τ 8) t (max (τ 8 t - 1) 0) := by rw [hτ]; simp (disch := decide) only [ot_rd, ot_rs, ot_rf, ot_ucd, ot_ucs, ot_rdf]
        have q7 : τ2 7 = τ 7 := by rw [hτ]; simp (disch := decide) only [ot_rd, ot_rs, ot_rf, ot_ucd, ot_ucs, ot_rdf]
        refine ihj (τ2, j + 1) ⟨by show 0 ≤ j + 1 ∧ j + 1 ≤ G1; omega, ?_, ?_, ?_, ?_, ?_, ?_⟩ (by show (G1 - (j + 1)).toNat < (G1 - j).toNat; omega)
        · show eqx [38, 39, 36, 16, 40, 34, 35, 7, 8] μ τ2
          rw [hτ]
          repeat first | exact hIj.2.1 | refine eqx_uc ?_ (by decide) | refine eqx_up ?_ (by decide)
        · show gChd (μ 1 11) (μ 1 12) (μ 2) (μ 3) (τ2 38) (τ2 39)
          rw [hτ]; simp (disch := decide) only [ot_rd, ot_rs, ot_rf, ot_ucd, ot_ucs, ot_rdf]; exact hC92
        · show gWnd (μ 1 12) (τ2 8) (τ2 7)
          rw [q8, q7]; exact gWnd_pop hIj.2.2.2.1 (by omega)
        · show gClo (μ 1 11) (μ 2) (μ 3) (τ2 8) (τ2 7) (μ 6) (τ2 34) (τ2 35)
          rw [q8, q7, hτ]; simp (disch := decide) only [ot_rd, ot_rs, ot_rf, ot_ucd, ot_ucs, ot_rdf]; exact hCl92
        · show τ2 8 = up1 (μ 8) t (μ 8 t + (G1 - (j + 1)))
          rw [q8, hIj.2.2.2.2.2.1, up1_up1, up1_s]; congr 1; omega
        · show τ2 7 = Gr
          rw [q7]; exact hIj.2.2.2.2.2.2
    · refine tt_aload_n X rfl dX7_goGreedily_26 ?_
      refine tt_geti X fX7_23 (k_40 _ _) (by decide) (Or.inl rfl) dX7_goGreedily_27 ?_
      try simp (disch := decide) only [ot_rd, ot_rs, ot_rf, ot_ucd, ot_ucs, heM, he]
      refine tt_if_gt X 36 (by first | omega | (simp (disch := decide) only [ot_rd, ot_rs, ot_rf, ot_ucd, ot_ucs, heM, he]; omega)) dX7_goGreedily_30 (by decide) (fun b30 => ?_) (fun b30 => ?_)
      · have hnm45 := hnm.resolve_left (by omega)
        refine tt_aload_n X rfl dX7_goGreedily_36 ?_
        refine tt_getr X fX7_15 (k_40 _ _) (by decide) ⟨nofun, nofun⟩ rfl dX7_goGreedily_37 ?_
        refine tt_iload_n X rfl dX7_goGreedily_40 ?_
        refine tt_aload_n X rfl dX7_goGreedily_41 ?_
        refine tt_geti X fX7_19 (k_40 _ _) (by decide) (Or.inl rfl) dX7_goGreedily_42 ?_
        try simp (disch := decide) only [ot_rd, ot_rs, ot_rf, ot_ucd, ot_ucs, heM, he]
        refine tt_vv X rfl mX7_63 (c_goOn l g ln ext _ _ _ (by simp (disch := decide) only [ot_rd, ot_rs, ot_rf, ot_ucd, ot_ucs, ot_rdf, heM]; exact hG) (by simp (disch := decide) only [ot_rd, ot_rs, ot_rf, ot_ucd, ot_ucs, ot_rdf, heM]; exact hz15b) (by simp (disch := decide) only [ot_rd, ot_rs, ot_rf, ot_ucd, ot_ucs, ot_rdf, heM]; rw [he8, he7]; exact hI.2.2.2.1) (by simp (disch := decide) only [ot_rd, ot_rs, ot_rf, ot_ucd, ot_ucs, ot_rdf, heM]; rw [he8, he7, he15 34 (by decide), he15 35 (by decide)]; exact hI.2.2.2.2.1) (by omega) (by simp (disch := decide) only [ot_rd, ot_rs, ot_rf, ot_ucd, ot_ucs, ot_rdf, heM]; omega) (by rw [he8]; exact (mayS_can (hnm45.2.1)).1) (by rw [he8, he7]; have := (mayS_can (hnm45.2.1)).2; omega)) (k_33 _ _) ⟨_, rfl, rfl⟩ rfl rfl (Nat.le_of_ble_eq_true rfl) (by decide) (by decide) (by decide) dX7_goGreedily_45 (fun L45 μ45 hp => ?_)
        obtain ⟨rfl, f, z, D, U, hC45, hCl45, rfl⟩ := hp
        simp (disch := decide) only [ot_rd, ot_rs, ot_rf, ot_ucd, ot_ucs, ot_rdf, heM] at hC45 hCl45
        rw [he8, he7] at hCl45
        have hcan := mayS_can (hnm45.2.1)
        refine tt_iinc X dX7_goGreedily_48 rfl (by decide) ?_
        refine tt_iinc X dX7_goGreedily_51 rfl (by decide) ?_
        refine tt_goto X 6 dX7_goGreedily_54 (by decide) ?_
        refine tt_loc [(0, _), (1, _), (2, _), (3, _), (4, _), (5, _), (6, _)] ⟨rfl, rfl, rfl, rfl, rfl, rfl, rfl, trivial⟩ ?_
        refine tt_gen (fun σ2 hσ => ?_)
        have q8 : σ2 8 = up1 (σ 8) t (σ 8 t + 1) := by rw [hσ]; simp (disch := decide) only [ot_rd, ot_rs, ot_rf, ot_ucd, ot_ucs, ot_rdf]; simp (disch := decide) only [he15]
        have q7 : σ2 7 = up1 (σ 7) (120 * t + σ 8 t) (μ15 40 2) := by rw [hσ]; simp (disch := decide) only [ot_rd, ot_rs, ot_rf, ot_ucd, ot_ucs, ot_rdf]; simp (disch := decide) only [he15]
        have q1 : eqx [38, 39, 36, 16, 40, 34, 35, 7, 8] μ σ2 := by
          rw [hσ]
          repeat first | exact hq15 | refine eqx_uc ?_ (by decide) | refine eqx_up ?_ (by decide)
        have hgo := grS_go (nx := nx) (t := t) (i := i) (k := (nn - (i + 1)).toNat) hnb (by omega) (by omega) q8 q7
        rw [show (nn - (i + 1)).toNat + 1 = (nn - i).toNat by omega] at hgo
        refine ih (σ2, i + 1) ⟨by show 0 ≤ i + 1 ∧ i + 1 ≤ nn; omega, q1, ?_, ?_, ?_, ?_, ?_, ?_⟩ (by show (nn - (i + 1)).toNat < (nn - i).toNat; omega)
        · show gChd (μ 1 11) (μ 1 12) (μ 2) (μ 3) (σ2 38) (σ2 39)
          rw [hσ]; simp (disch := decide) only [ot_rd, ot_rs, ot_rf, ot_ucd, ot_ucs, ot_rdf]; exact hC45
        · show gWnd (μ 1 12) (σ2 8) (σ2 7)
          rw [q8, q7]; exact gWnd_push hI.2.2.2.1 ht (by omega) (by omega) (fun _ => by omega)
        · show gClo (μ 1 11) (μ 2) (μ 3) (σ2 8) (σ2 7) (μ 6) (σ2 34) (σ2 35)
          rw [q8, q7, hσ]; simp (disch := decide) only [ot_rd, ot_rs, ot_rf, ot_ucd, ot_ucs, ot_rdf]; exact hCl45
        · show σ2 8 = up1 (μ 8) t (μ 8 t + (i + 1))
          rw [q8, hI.2.2.2.2.2.1, up1_up1, up1_s]; congr 1; omega
        · show (grS nx t nn.toNat (μ 8) (μ 7)).1 = (grS nx t (nn - (i + 1)).toNat (σ2 8) (σ2 7)).1 + (i + 1)
          rw [hI.2.2.2.2.2.2.1, hgo.1]
        · show (grS nx t nn.toNat (μ 8) (μ 7)).2 = (grS nx t (nn - (i + 1)).toNat (σ2 8) (σ2 7)).2
          rw [hI.2.2.2.2.2.2.2, hgo.2]
      · refine tt_goto X 57 dX7_goGreedily_33 (by decide) ?_
        obtain ⟨hg1, hg2, hg3⟩ : G1 = i ∧ Gc = σ 8 ∧ Gr = σ 7 := by
          have hstop := grS_stop (nx := nx) (t := t) (k := (nn - i).toNat) (cnt := σ 8) (row := σ 7) (Or.inr (Or.inr (by rw [← hnb]; show μ15 40 5 ≤ 0; omega)))
          have h1 := hI.2.2.2.2.2.2.1
          have h2 := hI.2.2.2.2.2.2.2
          rw [hstop, ← hGG] at h1 h2
          have h3 : (Gc, Gr) = (σ 8, σ 7) := h2
          exact ⟨by have : G1 = 0 + i := h1; omega, congrArg Prod.fst h3, congrArg Prod.snd h3⟩
        refine tt_gen (fun ρ hρ => ?_)
        have heR : ∀ k, k ∉ [38, 39, 36, 16, 40, 34, 35, 7, 8] → ρ k = μ k := by
          intro k hk; rw [hρ]; first | exact he k hk | exact hq15 k hk
        have hRC : gChd (μ 1 11) (μ 1 12) (μ 2) (μ 3) (ρ 38) (ρ 39) := by rw [hρ]; first | exact hI.2.2.1 | exact hz15b
        have hR8 : ρ 8 = σ 8 := by rw [hρ]; try exact he8
        have hR7 : ρ 7 = σ 7 := by rw [hρ]; try exact he7
        have hRCl : gClo (μ 1 11) (μ 2) (μ 3) (ρ 8) (ρ 7) (μ 6) (ρ 34) (ρ 35) := by rw [hR8, hR7, hρ]; first | exact hI.2.2.2.2.1 | (rw [he15 34 (by decide), he15 35 (by decide)]; exact hI.2.2.2.2.1)
        have hRW : gWnd (μ 1 12) (ρ 8) (ρ 7) := by rw [hR8, hR7]; exact hI.2.2.2.1
        refine tt_aload_n X rfl dX7_goGreedily_57 ?_
        refine tt_getr X fX7_15 (k_40 _ _) (by decide) ⟨nofun, nofun⟩ rfl dX7_goGreedily_58 ?_
        refine tt_iload_n X rfl dX7_goGreedily_61 ?_
        refine tt_vi X rfl mX7_66 (c_farOf l g ln ext _ _ (by omega) (by simp (disch := decide) only [ot_rd, ot_rs, ot_rf, ot_ucd, ot_ucs, ot_rdf, heR]; exact gFar_clo hWn hG hRW hs hRCl hp4)) (k_33 _ _) ⟨_, rfl, rfl⟩ rfl rfl (Nat.le_of_ble_eq_true rfl) (by decide) (by decide) (by decide) dX7_goGreedily_62 (fun z62 L62 μ62 hp => ?_)
        obtain ⟨rfl, e62, hz62⟩ := hp
        replace e62 := e62.symm
        subst e62
        simp (disch := decide) only [ot_rd, ot_rs, ot_rf, ot_ucd, ot_ucs, ot_rdf, heR] at hz62
        refine tt_istore X dX7_goGreedily_65 (by decide) ?_
        refine tt_aload_n X rfl dX7_goGreedily_67 ?_
        refine tt_getr X fX7_9 (k_40 _ _) (by decide) ⟨nofun, nofun⟩ rfl dX7_goGreedily_68 ?_
        refine tt_iload_n X rfl dX7_goGreedily_71 ?_
        refine tt_vi X rfl mX7_26 (c_lastPin l g ln ext _ _ (by omega) (by have := (hRW t ht.1 ht.2).1; omega)) (k_1 _ _) ⟨_, rfl, rfl⟩ rfl rfl (Nat.le_of_ble_eq_true rfl) (by decide) (by decide) (by decide) dX7_goGreedily_72 (fun z72 L72 μ72 hp => ?_)
        obtain ⟨rfl, e72, hz72⟩ := hp
        replace e72 := e72.symm
        subst e72
        refine tt_istore X dX7_goGreedily_75 (by decide) ?_
        refine tt_iconst X dX7_goGreedily_77 ?_
        refine tt_istore X dX7_goGreedily_78 (by decide) ?_
        have hWr := (hRW t ht.1 ht.2)
        have hR8t : ρ 8 t = μ 8 t + i := by rw [hR8, hI.2.2.2.2.2.1, up1_s]
        have hz62' : z62 = farS (μ 5) (μ 4) (dk (μ 1 11) (μ 2) (μ 3) Gc Gr (μ 6)) pp := by
          rw [hz62, hg2, hg3]
          exact farS_congr (fun k k1 k2 => ⟨rfl, rfl, by rw [hRCl.1 k k1 k2, hR8, hR7]⟩)
        have hz72' : z72 = (if Gc t = 0 then -1 else Gr (120 * t + (Gc t - 1))) := by
          rw [hz72, hg2, hg3, ← hR8, ← hR7]
          by_cases w : 1 ≤ ρ 8 t
          · rw [if_pos w, if_neg (by omega), show t * 120 + (ρ 8 t - 1) = 120 * t + (ρ 8 t - 1) by omega]
          · rw [if_neg w, if_pos (by omega)]
        subst hg1
        refine tt_loc [(0, _), (1, _), (2, _), (3, _), (4, _), (5, _), (6, _), (7, _), (8, _)] ⟨rfl, rfl, rfl, rfl, rfl, rfl, rfl, rfl, rfl, trivial⟩ ?_
        refine tt_loop (α := ot_M × Int) (fun ((τ, j)) => (G1 - j).toNat) (fun ((τ, j)) => (0 ≤ j ∧ j ≤ G1) ∧ eqx [38, 39, 36, 16, 40, 34, 35, 7, 8] μ τ ∧ gChd (μ 1 11) (μ 1 12) (μ 2) (μ 3) (τ 38) (τ 39) ∧ gWnd (μ 1 12) (τ 8) (τ 7) ∧ gClo (μ 1 11) (μ 2) (μ 3) (τ 8) (τ 7) (μ 6) (τ 34) (τ 35) ∧ τ 8 = up1 (μ 8) t (μ 8 t + (G1 - j)) ∧ τ 7 = Gr) (fun ((τ, j)) => τ) (fun ((τ, j)) => [(0, .inr 40), (1, .inl t), (2, .inl pp), (3, .inl nn), (4, .inl w), (5, .inl G1), (6, .inl z62), (7, .inl z72), (8, .inl j)]) (ρ, 0) ⟨by show 0 ≤ (0 : Int) ∧ (0 : Int) ≤ G1; omega, heR, hRC, hRW, hRCl, by rw [hR8, hI.2.2.2.2.2.1, Int.sub_zero], by rw [hR7, hg3]⟩ ?_
        intro a hIj ihj
        obtain ⟨τ, j⟩ := a
        try dsimp only at hIj ihj ⊢
        replace hIj : (0 ≤ j ∧ j ≤ G1) ∧ eqx [38, 39, 36, 16, 40, 34, 35, 7, 8] μ τ ∧ gChd (μ 1 11) (μ 1 12) (μ 2) (μ 3) (τ 38) (τ 39) ∧ gWnd (μ 1 12) (τ 8) (τ 7) ∧ gClo (μ 1 11) (μ 2) (μ 3) (τ 8) (τ 7) (μ 6) (τ 34) (τ 35) ∧ τ 8 = up1 (μ 8) t (μ 8 t + (G1 - j)) ∧ τ 7 = Gr := hIj
        have hj := hIj.1
        have heT : ∀ k, k ∉ [38, 39, 36, 16, 40, 34, 35, 7, 8] → τ k = μ k := hIj.2.1
        have hT8 := (hIj.2.2.2.1 t ht.1 ht.2).1
        have hT8t : τ 8 t = μ 8 t + (G1 - j) := by rw [hIj.2.2.2.2.2.1, up1_s]
        refine tt_iload X rfl dX7_goGreedily_80 ?_
        refine tt_iload X rfl dX7_goGreedily_82 ?_
        refine tt_icmp_ge X 101 (by first | omega | (simp (disch := decide) only [ot_rd, ot_rs, ot_rf, ot_ucd, ot_ucs, heT]; omega)) dX7_goGreedily_84 (by decide) (fun b84 => ?_) (fun b84 => ?_)
        · refine tt_iload X rfl dX7_goGreedily_101 ?_
          refine tt_if_ne X 111 (by first | omega | (simp (disch := decide) only [ot_rd, ot_rs, ot_rf, ot_ucd, ot_ucs, heT]; omega)) dX7_goGreedily_103 (by decide) (fun b103 => ?_) (fun b103 => ?_)
          · refine tt_iload X rfl dX7_goGreedily_111 ?_
            refine tt_iconst X dX7_goGreedily_113 ?_
            refine tt_icmp_ne X 122 (by first | omega | (simp (disch := decide) only [ot_rd, ot_rs, ot_rf, ot_ucd, ot_ucs, heT]; omega)) dX7_goGreedily_114 (by decide) (fun b114 => ?_) (fun b114 => ?_)
            · refine tt_iload X rfl dX7_goGreedily_122 ?_
              refine tt_iret X ⟨hr.1, hr.2.1⟩ (by decide) (by decide) dX7_goGreedily_124 ?_
              have e8 : τ 8 = μ 8 := by rw [hIj.2.2.2.2.2.1, show G1 - j = 0 by omega]; exact up1_id (by omega)
              have hcl := hIj.2.2.2.2.1
              have hwd := hIj.2.2.2.1
              rw [e8] at hcl hwd
              refine ⟨rfl, ?_, hIj.2.2.1, hwd, hcl, hIj.2.2.2.2.2.2, ?_⟩
              · intro k hk
                by_cases k8 : k = 8
                · rw [k8]; exact e8
                · exact heT k (by intro hk2; apply hk; revert hk2; simp; omega)
              · first | (rw [if_pos (by omega)]; done) | (rw [if_neg (by omega), if_pos (by omega)]; exact hz62') | (rw [if_neg (by omega), if_neg (by omega)]; exact hz72')
            · refine tt_iload X rfl dX7_goGreedily_117 ?_
              refine tt_goto X 124 dX7_goGreedily_119 (by decide) ?_
              refine tt_iret X ⟨hr.1, hr.2.1⟩ (by decide) (by decide) dX7_goGreedily_124 ?_
              have e8 : τ 8 = μ 8 := by rw [hIj.2.2.2.2.2.1, show G1 - j = 0 by omega]; exact up1_id (by omega)
              have hcl := hIj.2.2.2.2.1
              have hwd := hIj.2.2.2.1
              rw [e8] at hcl hwd
              refine ⟨rfl, ?_, hIj.2.2.1, hwd, hcl, hIj.2.2.2.2.2.2, ?_⟩
              · intro k hk
                by_cases k8 : k = 8
                · rw [k8]; exact e8
                · exact heT k (by intro hk2; apply hk; revert hk2; simp; omega)
              · first | (rw [if_pos (by omega)]; done) | (rw [if_neg (by omega), if_pos (by omega)]; exact hz62') | (rw [if_neg (by omega), if_neg (by omega)]; exact hz72')
          · refine tt_iload X rfl dX7_goGreedily_106 ?_
            refine tt_goto X 124 dX7_goGreedily_108 (by decide) ?_
            refine tt_iret X ⟨hr.1, hr.2.1⟩ (by decide) (by decide) dX7_goGreedily_124 ?_
            have e8 : τ 8 = μ 8 := by rw [hIj.2.2.2.2.2.1, show G1 - j = 0 by omega]; exact up1_id (by omega)
            have hcl := hIj.2.2.2.2.1
            have hwd := hIj.2.2.2.1
            rw [e8] at hcl hwd
            refine ⟨rfl, ?_, hIj.2.2.1, hwd, hcl, hIj.2.2.2.2.2.2, ?_⟩
            · intro k hk
              by_cases k8 : k = 8
              · rw [k8]; exact e8
              · exact heT k (by intro hk2; apply hk; revert hk2; simp; omega)
            · first | (rw [if_pos (by omega)]; done) | (rw [if_neg (by omega), if_pos (by omega)]; exact hz62') | (rw [if_neg (by omega), if_neg (by omega)]; exact hz72')
        · refine tt_aload_n X rfl dX7_goGreedily_87 ?_
          refine tt_getr X fX7_15 (k_40 _ _) (by decide) ⟨nofun, nofun⟩ rfl dX7_goGreedily_88 ?_
          refine tt_iload_n X rfl dX7_goGreedily_91 ?_
          refine tt_vv X rfl mX7_69 (c_goBack l g ln ext _ _ (by simp (disch := decide) only [heT]; exact hG) (by simp (disch := decide) only [heT]; exact hIj.2.2.1) (by simp (disch := decide) only [heT]; exact hIj.2.2.2.1) (by simp (disch := decide) only [heT]; exact hIj.2.2.2.2.1) (by omega)) (k_33 _ _) ⟨_, rfl, rfl⟩ rfl rfl (Nat.le_of_ble_eq_true rfl) (by decide) (by decide) (by decide) dX7_goGreedily_92 (fun L92 μ92 hp => ?_)
          obtain ⟨rfl, f2, z2, D2, U2, hC92, hCl92, rfl⟩ := hp
          simp (disch := decide) only [heT] at hC92 hCl92
          refine tt_iinc X dX7_goGreedily_95 rfl (by decide) ?_
          refine tt_goto X 80 dX7_goGreedily_98 (by decide) ?_
          refine tt_loc [(0, _), (1, _), (2, _), (3, _), (4, _), (5, _), (6, _), (7, _), (8, _)] ⟨rfl, rfl, rfl, rfl, rfl, rfl, rfl, rfl, rfl, trivial⟩ ?_
          refine tt_gen (fun τ2 hτ => ?_)
          have q8 : τ2 8 = up1 (τ 8) t (max (τ 8 t - 1) 0) := by rw [hτ]; simp (disch := decide) only [ot_rd, ot_rs, ot_rf, ot_ucd, ot_ucs, ot_rdf]
          have q7 : τ2 7 = τ 7 := by rw [hτ]; simp (disch := decide) only [ot_rd, ot_rs, ot_rf, ot_ucd, ot_ucs, ot_rdf]
          refine ihj (τ2, j + 1) ⟨by show 0 ≤ j + 1 ∧ j + 1 ≤ G1; omega, ?_, ?_, ?_, ?_, ?_, ?_⟩ (by show (G1 - (j + 1)).toNat < (G1 - j).toNat; omega)
          · show eqx [38, 39, 36, 16, 40, 34, 35, 7, 8] μ τ2
            rw [hτ]
            repeat first | exact hIj.2.1 | refine eqx_uc ?_ (by decide) | refine eqx_up ?_ (by decide)
          · show gChd (μ 1 11) (μ 1 12) (μ 2) (μ 3) (τ2 38) (τ2 39)
            rw [hτ]; simp (disch := decide) only [ot_rd, ot_rs, ot_rf, ot_ucd, ot_ucs, ot_rdf]; exact hC92
          · show gWnd (μ 1 12) (τ2 8) (τ2 7)
            rw [q8, q7]; exact gWnd_pop hIj.2.2.2.1 (by omega)
          · show gClo (μ 1 11) (μ 2) (μ 3) (τ2 8) (τ2 7) (μ 6) (τ2 34) (τ2 35)
            rw [q8, q7, hτ]; simp (disch := decide) only [ot_rd, ot_rs, ot_rf, ot_ucd, ot_ucs, ot_rdf]; exact hCl92
          · show τ2 8 = up1 (μ 8) t (μ 8 t + (G1 - (j + 1)))
            rw [q8, hIj.2.2.2.2.2.1, up1_up1, up1_s]; congr 1; omega
          · show τ2 7 = Gr
            rw [q7]; exact hIj.2.2.2.2.2.2

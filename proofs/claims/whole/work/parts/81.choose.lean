theorem and_self_b {x : Int} (h : 0 ≤ x ∧ x < 2147483648) : ot_and x x = x := by
  unfold ot_and
  rw [Int32.and_self]
  exact ot_bm (by omega) (by omega)
theorem dkL_bd {S n : Int} {px py la lb : Int → Int} {L : Nat} {x k : Int} (hG : gPin S n px py) (hL : L ≤ 20) (hs : ∀ i : Int, 0 ≤ i → i < L → (0 ≤ la i ∧ la i < n) ∧ (0 ≤ lb i ∧ lb i < n) ∧ la i ≠ lb i) : 0 ≤ dkL S px py la lb L x k ∧ dkL S px py la lb L x k ≤ 160 := by
  have h := sumN_bound (f := fun l => if bt x l then smp S px py (la l) (lb l) k else 0) (c := 8) (by omega) (n := L) (fun i i1 i2 => by
    have h1 := hs i i1 i2
    have h2 := smp_bd hG h1.1 h1.2.1 h1.2.2 k
    show 0 ≤ (if bt x i then smp S px py (la i) (lb i) k else 0) ∧ (if bt x i then smp S px py (la i) (lb i) k else 0) ≤ 8
    split <;> omega)
  unfold dkL
  omega
set_option maxRecDepth 100000 in
set_option maxHeartbeats 1000000 in
theorem c_note (l : Launch) (g : ot_G) (ln : Nat) (ext : ot_L) (μ : ot_M) (x : Int) (hx : 0 ≤ x ∧ x < 4096) (hc : 0 ≤ μ 45 5 ∧ μ 45 5 ≤ 5000) : ot_C l g yX2_note cX2_note 2 none 0 0 0 [.inr 45, .inl x] (LL ln ext) μ (ot_pv (fun L2 μ2 => L2 = LL ln ext ∧ eqx [45] μ μ2 ∧ (∀ j, j ≠ 5 → j ≠ 6 → j ≠ 7 → μ2 45 j = μ 45 j) ∧ (μ2 45 5, μ2 45 6, μ2 45 7) = noteS (μ 45 5, μ 45 6, μ 45 7) x)) := by
  refine ot_enter (by decide) (Nat.le_of_ble_eq_true rfl) ?_
  intro p e s m args below meth c X hr
  refine tt_aload_n X rfl dX2_note_0 ?_
  refine tt_geti X fX2_41 (k_45 _ _) (by decide) (Or.inl rfl) dX2_note_1 ?_
  refine tt_if_ne X 17 (by omega) dX2_note_4 (by decide) (fun b4 => ?_) (fun b4 => ?_)
  · refine tt_aload_n X rfl dX2_note_17 ?_
    refine tt_dup X dX2_note_18 ?_
    refine tt_geti X fX2_47 (k_45 _ _) (by decide) (Or.inl rfl) dX2_note_19 ?_
    refine tt_iload_n X rfl dX2_note_22 ?_
    refine tt_iand X dX2_note_23 ?_
    refine tt_puti X fX2_47 kc_2 (k_45 _ _) (by decide) (fun q hq => by cases hq; rfl) rfl dX2_note_24 ?_
    refine tt_aload_n X rfl dX2_note_27 ?_
    refine tt_dup X dX2_note_28 ?_
    refine tt_geti X fX2_41 (k_45 _ _) (by decide) (Or.inl rfl) dX2_note_29 ?_
    try simp (disch := decide) only [ot_rd, ot_rs, ot_rf, ot_ucd, ot_ucs]
    refine tt_iconst X dX2_note_32 ?_
    refine tt_iadd X dX2_note_33 ?_
    refine tt_puti X fX2_41 kc_2 (k_45 _ _) (by decide) (fun q hq => by cases hq; rfl) rfl dX2_note_34 ?_
    refine tt_vret X ⟨hr.1, hr.2.1⟩ (by decide) (by decide) dX2_note_37 ?_
    refine ⟨rfl, ?_, ?_, ?_⟩
    · repeat first | exact eqx_rfl _ _ | refine eqx_uc ?_ (by decide) | refine eqx_up ?_ (by decide)
    · intro j j1 j2 j3
      first | rw [ot_rf j1, ot_rf j3, ot_rf j3, ot_rf j2] | rw [ot_rf j1, ot_rf j3]
    · simp (disch := decide) only [ot_rd, ot_rs, ot_rf, ot_ucd, ot_ucs, ot_rdf]
      unfold noteS
      dsimp only
      first
        | (rw [if_pos (by omega), and_self_b (by omega), show μ 45 5 + 1 = 1 by omega]; done)
        | rw [if_neg (by omega)]
  · refine tt_aload_n X rfl dX2_note_7 ?_
    refine tt_iload_n X rfl dX2_note_8 ?_
    refine tt_puti X fX2_44 kc_2 (k_45 _ _) (by decide) (fun q hq => by cases hq; rfl) rfl dX2_note_9 ?_
    refine tt_aload_n X rfl dX2_note_12 ?_
    refine tt_iload_n X rfl dX2_note_13 ?_
    refine tt_puti X fX2_47 kc_2 (k_45 _ _) (by decide) (fun q hq => by cases hq; rfl) rfl dX2_note_14 ?_
    refine tt_aload_n X rfl dX2_note_17 ?_
    refine tt_dup X dX2_note_18 ?_
    refine tt_geti X fX2_47 (k_45 _ _) (by decide) (Or.inl rfl) dX2_note_19 ?_
    try simp (disch := decide) only [ot_rd, ot_rs, ot_rf, ot_ucd, ot_ucs]
    refine tt_iload_n X rfl dX2_note_22 ?_
    refine tt_iand X dX2_note_23 ?_
    refine tt_puti X fX2_47 kc_2 (k_45 _ _) (by decide) (fun q hq => by cases hq; rfl) rfl dX2_note_24 ?_
    refine tt_aload_n X rfl dX2_note_27 ?_
    refine tt_dup X dX2_note_28 ?_
    refine tt_geti X fX2_41 (k_45 _ _) (by decide) (Or.inl rfl) dX2_note_29 ?_
    try simp (disch := decide) only [ot_rd, ot_rs, ot_rf, ot_ucd, ot_ucs]
    refine tt_iconst X dX2_note_32 ?_
    refine tt_iadd X dX2_note_33 ?_
    refine tt_puti X fX2_41 kc_2 (k_45 _ _) (by decide) (fun q hq => by cases hq; rfl) rfl dX2_note_34 ?_
    refine tt_vret X ⟨hr.1, hr.2.1⟩ (by decide) (by decide) dX2_note_37 ?_
    refine ⟨rfl, ?_, ?_, ?_⟩
    · repeat first | exact eqx_rfl _ _ | refine eqx_uc ?_ (by decide) | refine eqx_up ?_ (by decide)
    · intro j j1 j2 j3
      first | rw [ot_rf j1, ot_rf j3, ot_rf j3, ot_rf j2] | rw [ot_rf j1, ot_rf j3]
    · simp (disch := decide) only [ot_rd, ot_rs, ot_rf, ot_ucd, ot_ucs, ot_rdf]
      unfold noteS
      dsimp only
      first
        | (rw [if_pos (by omega), and_self_b (by omega), show μ 45 5 + 1 = 1 by omega]; done)
        | rw [if_neg (by omega)]
set_option maxRecDepth 100000 in
set_option maxHeartbeats 1000000 in
theorem c_choose0 (l : Launch) (g : ot_G) (ln : Nat) (ext : ot_L) (μ : ot_M) (dl : Int → Int → Int) (hdl : dl = (fun x k => dkL (μ 1 11) (μ 2) (μ 3) (μ 9) (μ 10) (μ 1 13).toNat x k)) (j : Nat) (c0 : Int) (hj : j ≤ 12) (hjL : (j : Int) ≤ μ 1 13) (hc : 0 ≤ c0 ∧ c0 < 4096) (hcb : ∀ i : Nat, i < j → bt c0 i = false) (hM : 0 ≤ μ 1 13 ∧ μ 1 13 ≤ 12) (hG : gPin (μ 1 11) (μ 1 12) (μ 2) (μ 3)) (hCh : gChd (μ 1 11) (μ 1 12) (μ 2) (μ 3) (μ 38) (μ 39)) (hset : ∀ i, 0 ≤ i → i < μ 1 13 → (0 ≤ μ 9 i ∧ μ 9 i < μ 1 12) ∧ (0 ≤ μ 10 i ∧ μ 10 i < μ 1 12) ∧ μ 9 i ≠ μ 10 i) (htl : ∀ k, 0 ≤ k → k < 64 → -1 ≤ μ 11 k ∧ μ 11 k ≤ 9999) (hgu : ((∀ k, 0 ≤ k → k < 64 → μ 46 k = lkS (μ 11) dl c0 k) ∧ μ 45 3 = cntN (lkS (μ 11) dl c0) ∧ μ 45 4 = cntO (lkS (μ 11) dl c0))) (hn : 0 ≤ μ 45 5 ∧ μ 45 5 + ((2 ^ j : Nat) : Int) ≤ 5000) (hj0 : j = 0) : ot_C l g yX2_choose cX2_choose 3 none (6 + j) 0 0 [.inr 45, .inl ((j : Int) - 1), .inl c0] (LL ln ext) μ (ot_pv (fun L2 μ2 => L2 = LL ln ext ∧ eqx [38, 39, 45, 46] μ μ2 ∧ gChd (μ 1 11) (μ 1 12) (μ 2) (μ 3) (μ2 38) (μ2 39) ∧ ((∀ k, 0 ≤ k → k < 64 → μ2 46 k = lkS (μ 11) dl c0 k) ∧ μ2 45 3 = cntN (lkS (μ 11) dl c0) ∧ μ2 45 4 = cntO (lkS (μ 11) dl c0)) ∧ (μ2 45 5, μ2 45 6, μ2 45 7) = bkS (vlS (μ 11) dl) j c0 (μ 45 5, μ 45 6, μ 45 7) ∧ (0 ≤ μ2 45 5 ∧ μ2 45 5 ≤ μ 45 5 + ((2 ^ j : Nat) : Int)))) := by
  refine ot_enter (by decide) (Nat.le_of_ble_eq_true rfl) ?_
  intro p e s m args below meth c X hr
  have hcb2 := cnt_bd (lkS (μ 11) dl c0)
  have hpw := Nat.two_pow_pos j
  have h3 := hgu.2.1
  refine tt_iload_n X rfl dX2_choose_0 ?_
  refine tt_if_ge X 17 (by omega) dX2_choose_1 (by decide) (fun b1 => ?_) (fun b1 => ?_)
  · exact absurd b1 (by omega)
  · refine tt_aload_n X rfl dX2_choose_4 ?_
    refine tt_geti X fX2_23 (k_45 _ _) (by decide) (Or.inl rfl) dX2_choose_5 ?_
    refine tt_if_ne X 16 (by omega) dX2_choose_8 (by decide) (fun b8 => ?_) (fun b8 => ?_)
    · refine tt_vret X ⟨hr.1, hr.2.1⟩ (by decide) (by decide) dX2_choose_16 ?_
      first
        | (have hv : vlS (μ 11) dl c0 = true := decide_eq_true (by omega)
           refine ⟨rfl, eqx_mono hq (by intro k hk hk2; apply hk; revert hk2; simp; omega), by rw [hq 38 (by decide), hq 39 (by decide)]; exact hCh, ?_, ?_, ?_⟩
           · rw [hq 46 (by decide), hq45 3 (by decide) (by decide) (by decide), hq45 4 (by decide) (by decide) (by decide)]; exact hgu
           · rw [hst, hj0]
             show _ = if vlS (μ 11) dl c0 then noteS _ c0 else _
             rw [hv]; rfl
           · have e1 := congrArg Prod.fst hst
             replace e1 : μ13 45 5 = (noteS (μ 45 5, μ 45 6, μ 45 7) c0).1 := e1
             rw [hj0, e1]
             unfold noteS
             have : ((2 ^ 0 : Nat) : Int) = 1 := rfl
             split <;> dsimp only <;> omega)
        | (have hv : vlS (μ 11) dl c0 = false := decide_eq_false (by omega)
           refine ⟨rfl, eqx_rfl _ _, hCh, hgu, ?_, ?_⟩
           · rw [hj0]
             show _ = if vlS (μ 11) dl c0 then noteS _ c0 else _
             rw [hv]; rfl
           · rw [hj0]
             have : ((2 ^ 0 : Nat) : Int) = 1 := rfl
             omega)
    · refine tt_aload_n X rfl dX2_choose_11 ?_
      refine tt_iload_n X rfl dX2_choose_12 ?_
      refine tt_vv X rfl mX2_60 (c_note l g ln ext _ _ hc (by omega)) (k_45 _ _) ⟨_, rfl, rfl⟩ rfl rfl (Nat.le_of_ble_eq_true rfl) (by omega) (by decide) (by decide) dX2_choose_13 (fun L13 μ13 hp => ?_)
      obtain ⟨rfl, hq, hq45, hst⟩ := hp
      refine tt_vret X ⟨hr.1, hr.2.1⟩ (by decide) (by decide) dX2_choose_16 ?_
      first
        | (have hv : vlS (μ 11) dl c0 = true := decide_eq_true (by omega)
           refine ⟨rfl, eqx_mono hq (by intro k hk hk2; apply hk; revert hk2; simp; omega), by rw [hq 38 (by decide), hq 39 (by decide)]; exact hCh, ?_, ?_, ?_⟩
           · rw [hq 46 (by decide), hq45 3 (by decide) (by decide) (by decide), hq45 4 (by decide) (by decide) (by decide)]; exact hgu
           · rw [hst, hj0]
             show _ = if vlS (μ 11) dl c0 then noteS _ c0 else _
             rw [hv]; rfl
           · have e1 := congrArg Prod.fst hst
             replace e1 : μ13 45 5 = (noteS (μ 45 5, μ 45 6, μ 45 7) c0).1 := e1
             rw [hj0, e1]
             unfold noteS
             have : ((2 ^ 0 : Nat) : Int) = 1 := rfl
             split <;> dsimp only <;> omega)
        | (have hv : vlS (μ 11) dl c0 = false := decide_eq_false (by omega)
           refine ⟨rfl, eqx_rfl _ _, hCh, hgu, ?_, ?_⟩
           · rw [hj0]
             show _ = if vlS (μ 11) dl c0 then noteS _ c0 else _
             rw [hv]; rfl
           · rw [hj0]
             have : ((2 ^ 0 : Nat) : Int) = 1 := rfl
             omega)
theorem lk_rng {S n : Int} {px py la lb tl : Int → Int} {L : Nat} {dl : Int → Int → Int} {x k : Int} (hdl : dl = (fun x k => dkL S px py la lb L x k)) (hG : gPin S n px py) (hL : L ≤ 20) (hs : ∀ i : Int, 0 ≤ i → i < L → (0 ≤ la i ∧ la i < n) ∧ (0 ≤ lb i ∧ lb i < n) ∧ la i ≠ lb i) (ht : -1 ≤ tl k ∧ tl k ≤ 9999) : -1000 ≤ lkS tl dl x k ∧ lkS tl dl x k ≤ 9999 := by
  unfold lkS
  rw [hdl]
  have := dkL_bd (x := x) (k := k) hG hL hs
  dsimp only
  split <;> omega
theorem lk_or {S : Int} {px py la lb tl : Int → Int} {L j : Nat} {dl : Int → Int → Int} {c k : Int} (hdl : dl = (fun x k => dkL S px py la lb L x k)) (hc : 0 ≤ c ∧ c < 2147483648) (hj : j < 31) (hn : bt c j = false) (hL : j < L) : lkS tl dl (ot_or c (ot_shl 1 j)) k = if tl k = -1 then lkS tl dl c k else lkS tl dl c k + -1 * smp S px py (la j) (lb j) k := by
  unfold lkS
  rw [hdl]
  dsimp only
  rw [dkL_or hc hj hn hL]
  split
  · rfl
  · omega
set_option maxRecDepth 100000 in
set_option maxHeartbeats 1000000 in
theorem c_chooseS (l : Launch) (g : ot_G) (ln : Nat) (ext : ot_L) (μ : ot_M) (dl : Int → Int → Int) (hdl : dl = (fun x k => dkL (μ 1 11) (μ 2) (μ 3) (μ 9) (μ 10) (μ 1 13).toNat x k)) (j : Nat) (c0 : Int) (hj : j + 1 ≤ 12) (hjL : ((j + 1 : Nat) : Int) ≤ μ 1 13) (hc : 0 ≤ c0 ∧ c0 < 4096) (hcb : ∀ i : Nat, i < j + 1 → bt c0 i = false) (hM : 0 ≤ μ 1 13 ∧ μ 1 13 ≤ 12) (hG : gPin (μ 1 11) (μ 1 12) (μ 2) (μ 3)) (hCh : gChd (μ 1 11) (μ 1 12) (μ 2) (μ 3) (μ 38) (μ 39)) (hset : ∀ i, 0 ≤ i → i < μ 1 13 → (0 ≤ μ 9 i ∧ μ 9 i < μ 1 12) ∧ (0 ≤ μ 10 i ∧ μ 10 i < μ 1 12) ∧ μ 9 i ≠ μ 10 i) (htl : ∀ k, 0 ≤ k → k < 64 → -1 ≤ μ 11 k ∧ μ 11 k ≤ 9999) (hgu : ((∀ k, 0 ≤ k → k < 64 → μ 46 k = lkS (μ 11) dl c0 k) ∧ μ 45 3 = cntN (lkS (μ 11) dl c0) ∧ μ 45 4 = cntO (lkS (μ 11) dl c0))) (hn : 0 ≤ μ 45 5 ∧ μ 45 5 + ((2 ^ (j + 1) : Nat) : Int) ≤ 5000) (IH : ∀ (μ : ot_M) (c0 : Int)  (hdl : dl = (fun x k => dkL (μ 1 11) (μ 2) (μ 3) (μ 9) (μ 10) (μ 1 13).toNat x k))   (hj : j ≤ 12) (hjL : (j : Int) ≤ μ 1 13) (hc : 0 ≤ c0 ∧ c0 < 4096) (hcb : ∀ i : Nat, i < j → bt c0 i = false) (hM : 0 ≤ μ 1 13 ∧ μ 1 13 ≤ 12) (hG : gPin (μ 1 11) (μ 1 12) (μ 2) (μ 3)) (hCh : gChd (μ 1 11) (μ 1 12) (μ 2) (μ 3) (μ 38) (μ 39)) (hset : ∀ i, 0 ≤ i → i < μ 1 13 → (0 ≤ μ 9 i ∧ μ 9 i < μ 1 12) ∧ (0 ≤ μ 10 i ∧ μ 10 i < μ 1 12) ∧ μ 9 i ≠ μ 10 i) (htl : ∀ k, 0 ≤ k → k < 64 → -1 ≤ μ 11 k ∧ μ 11 k ≤ 9999) (hgu : ((∀ k, 0 ≤ k → k < 64 → μ 46 k = lkS (μ 11) dl c0 k) ∧ μ 45 3 = cntN (lkS (μ 11) dl c0) ∧ μ 45 4 = cntO (lkS (μ 11) dl c0))) (hn : 0 ≤ μ 45 5 ∧ μ 45 5 + ((2 ^ j : Nat) : Int) ≤ 5000), ot_C l g yX2_choose cX2_choose 3 none (6 + j) 0 0 [.inr 45, .inl ((j : Int) - 1), .inl c0] (LL ln ext) μ (ot_pv (fun L2 μ2 => L2 = LL ln ext ∧ eqx [38, 39, 45, 46] μ μ2 ∧ gChd (μ 1 11) (μ 1 12) (μ 2) (μ 3) (μ2 38) (μ2 39) ∧ ((∀ k, 0 ≤ k → k < 64 → μ2 46 k = lkS (μ 11) dl c0 k) ∧ μ2 45 3 = cntN (lkS (μ 11) dl c0) ∧ μ2 45 4 = cntO (lkS (μ 11) dl c0)) ∧ (μ2 45 5, μ2 45 6, μ2 45 7) = bkS (vlS (μ 11) dl) j c0 (μ 45 5, μ 45 6, μ 45 7) ∧ (0 ≤ μ2 45 5 ∧ μ2 45 5 ≤ μ 45 5 + ((2 ^ j : Nat) : Int))))) : ot_C l g yX2_choose cX2_choose 3 none (6 + (j + 1)) 0 0 [.inr 45, .inl (((j + 1 : Nat) : Int) - 1), .inl c0] (LL ln ext) μ (ot_pv (fun L2 μ2 => L2 = LL ln ext ∧ eqx [38, 39, 45, 46] μ μ2 ∧ gChd (μ 1 11) (μ 1 12) (μ 2) (μ 3) (μ2 38) (μ2 39) ∧ ((∀ k, 0 ≤ k → k < 64 → μ2 46 k = lkS (μ 11) dl c0 k) ∧ μ2 45 3 = cntN (lkS (μ 11) dl c0) ∧ μ2 45 4 = cntO (lkS (μ 11) dl c0)) ∧ (μ2 45 5, μ2 45 6, μ2 45 7) = bkS (vlS (μ 11) dl) (j + 1) c0 (μ 45 5, μ 45 6, μ 45 7) ∧ (0 ≤ μ2 45 5 ∧ μ2 45 5 ≤ μ 45 5 + ((2 ^ (j + 1) : Nat) : Int)))) := by
  refine ot_enter (by decide) (Nat.le_of_ble_eq_true rfl) ?_
  intro p e s m args below meth c X hr

  have hNn := hG.2.1
  have hpw := Nat.two_pow_pos j
  have e2 : 2 ^ (j + 1) = 2 ^ j + 2 ^ j := by rw [Nat.pow_succ]; omega
  rw [e2] at hn
  have hsl := hset (j : Int) (by omega) (by omega)
  have hset2 : ∀ i : Int, 0 ≤ i → i < ((μ 1 13).toNat : Int) → (0 ≤ μ 9 i ∧ μ 9 i < μ 1 12) ∧ (0 ≤ μ 10 i ∧ μ 10 i < μ 1 12) ∧ μ 9 i ≠ μ 10 i := fun i i1 i2 => hset i i1 (by omega)
  have hcr := bt_or_rng (x := c0) (j := (j : Int)) (n := 12) (by decide) (by omega) (by omega)
  have hlk := fun k => lk_or (tl := μ 11) (c := c0) (k := k) hdl (by omega) (show j < 31 by omega) (hcb j (by omega)) (show j < (μ 1 13).toNat by omega)
  have hlr := fun x k k1 k2 => lk_rng (x := x) (k := k) hdl hG (by omega) hset2 (htl k k1 k2)
  have hcb2 : ∀ i : Nat, i < j → bt (ot_or c0 (ot_shl 1 (j : Int))) i = false := fun i hi => by
    rw [bt_or (by omega) (by omega) (by omega), hcb i (by omega)]; simp; omega
  have hdm : ∀ (c : Int) (j : Nat), 0 ≤ c → c < 4096 → j < 12 → bt c j = false → ∀ k, 0 ≤ k → k < 64 → dl c k ≤ dl (ot_or c (ot_shl 1 j)) k := by
    intro c j c1 c2 c3 c4 k k1 k2
    rw [hdl]
    by_cases w : j < (μ 1 13).toNat
    · dsimp only
      rw [dkL_or (by omega) (by omega) c4 w]
      have h1 := hset2 j (by omega) (by omega)
      have h2 := smp_bd hG h1.1 h1.2.1 h1.2.2 k
      omega
    · dsimp only
      refine Int.le_of_eq (sumN_congr (fun i i1 i2 => ?_))
      rw [bt_or (by omega) (by omega) i1]
      have : decide (i = (j : Int)) = false := decide_eq_false (by omega)
      rw [this, Bool.or_false]
  refine tt_iload_n X rfl dX2_choose_0 ?_
  refine tt_if_ge X 17 (by omega) dX2_choose_1 (by decide) (fun b1 => ?_) (fun b1 => ?_)
  · refine tt_aload_n X rfl dX2_choose_17 ?_
    refine tt_iload_n X rfl dX2_choose_18 ?_
    refine tt_iconst X dX2_choose_19 ?_
    refine tt_isub X dX2_choose_20 ?_
    refine tt_top (show (((j + 1 : Nat) : Int) - 1 - 1) = (j : Int) - 1 by omega) ?_
    refine tt_iload_n X rfl dX2_choose_21 ?_
    refine tt_vv X rfl mX2_56 (IH μ c0 hdl (by omega) (by omega) hc (fun i hi => hcb i (by omega)) hM hG hCh hset htl hgu (by omega)) (k_45 _ _) ⟨_, rfl, rfl⟩ rfl rfl (Nat.le_of_ble_eq_true rfl) (by omega) (by decide) (by decide) dX2_choose_22 (fun L22 μ22 hp => ?_)
    obtain ⟨rfl, hq22, hC22, hg22, hs22, hn22⟩ := hp
    have he22 : ∀ k, k ∉ [38, 39, 45, 46] → μ22 k = μ k := hq22
    have hcc22 := cnt_congr hg22.1
    have hpw := Nat.two_pow_pos j
    refine tt_aload_n X rfl dX2_choose_25 ?_
    refine tt_iload_n X rfl dX2_choose_26 ?_
    refine tt_top (show (((j + 1 : Nat) : Int) - 1) = (j : Int) by omega) ?_
    refine tt_iconst X dX2_choose_27 ?_
    refine tt_vv X rfl mX2_64 (c_take l g ln ext _ (j : Int) (-1) (by simp (disch := decide) only [ot_rd, ot_rs, ot_rf, ot_ucd, ot_ucs, ot_rdf, he22]; exact hG) (by simp (disch := decide) only [ot_rd, ot_rs, ot_rf, ot_ucd, ot_ucs, ot_rdf, he22]; exact hC22) (by omega) (by simp (disch := decide) only [ot_rd, ot_rs, ot_rf, ot_ucd, ot_ucs, ot_rdf, he22]; exact hsl.1) (by simp (disch := decide) only [ot_rd, ot_rs, ot_rf, ot_ucd, ot_ucs, ot_rdf, he22]; exact hsl.2.1) (by simp (disch := decide) only [ot_rd, ot_rs, ot_rf, ot_ucd, ot_ucs, ot_rdf, he22]; exact hsl.2.2) (by omega) (fun k k1 k2 => by rw [hg22.1 k k1 k2]; have := hlr c0 k k1 k2; omega) (by simp (disch := decide) only [ot_rd, ot_rs, ot_rf, ot_ucd, ot_ucs, ot_rdf, he22]; exact htl) (by rw [hg22.2.1]; exact hcc22.1.symm) (by rw [hg22.2.2]; exact hcc22.2.symm)) (k_45 _ _) ⟨_, rfl, rfl⟩ rfl rfl (Nat.le_of_ble_eq_true rfl) (by omega) (by decide) (by decide) dX2_choose_28 (fun L28 μ28 hp => ?_)
    obtain ⟨rfl, hq28, hC28, h4528, hk28, h328, h428⟩ := hp
    simp (disch := decide) only [ot_rd, ot_rs, ot_rf, ot_ucd, ot_ucs, ot_rdf, he22] at hC28 hk28
    have he28 : ∀ k, k ∉ [38, 39, 45, 46] → μ28 k = μ k := fun k hk => by rw [hq28 k hk]; exact he22 k hk
    have hg28 : ∀ k, 0 ≤ k → k < 64 → μ28 46 k = lkS (μ 11) dl (ot_or c0 (ot_shl 1 (j : Int))) k := fun k k1 k2 => by
      rw [hk28 k, hlk k, hg22.1 k k1 k2]
    have hcc28 := cnt_congr hg28
    replace hg28 : ((∀ k, 0 ≤ k → k < 64 → μ28 46 k = lkS (μ 11) dl (ot_or c0 (ot_shl 1 (j : Int))) k) ∧ μ28 45 3 = cntN (lkS (μ 11) dl (ot_or c0 (ot_shl 1 (j : Int)))) ∧ μ28 45 4 = cntO (lkS (μ 11) dl (ot_or c0 (ot_shl 1 (j : Int))))) := ⟨hg28, by rw [h328]; exact hcc28.1, by rw [h428]; exact hcc28.2⟩
    have hcb28 := cnt_bd (lkS (μ 11) dl (ot_or c0 (ot_shl 1 (j : Int))))
    have hr28 := hg28.2.2
    have h285 := h4528 5 (by decide) (by decide)
    have h286 := h4528 6 (by decide) (by decide)
    have h287 := h4528 7 (by decide) (by decide)
    refine tt_aload_n X rfl dX2_choose_31 ?_
    refine tt_geti X fX2_27 (k_45 _ _) (by decide) (Or.inl rfl) dX2_choose_32 ?_
    try simp (disch := decide) only [ot_rd, ot_rs, ot_rf, ot_ucd, ot_ucs, he28]
    refine tt_if_ne X 50 (by (rw [hr28]; omega)) dX2_choose_35 (by decide) (fun b35 => ?_) (fun b35 => ?_)
    · refine tt_aload_n X rfl dX2_choose_50 ?_
      refine tt_iload_n X rfl dX2_choose_51 ?_
      refine tt_top (show (((j + 1 : Nat) : Int) - 1) = (j : Int) by omega) ?_
      refine tt_iconst X dX2_choose_52 ?_
      refine tt_vv X rfl mX2_64 (c_take l g ln ext _ (j : Int) (1) (by simp (disch := decide) only [ot_rd, ot_rs, ot_rf, ot_ucd, ot_ucs, ot_rdf, he28]; exact hG) (by simp (disch := decide) only [ot_rd, ot_rs, ot_rf, ot_ucd, ot_ucs, ot_rdf, he28]; exact hC28) (by omega) (by simp (disch := decide) only [ot_rd, ot_rs, ot_rf, ot_ucd, ot_ucs, ot_rdf, he28]; exact hsl.1) (by simp (disch := decide) only [ot_rd, ot_rs, ot_rf, ot_ucd, ot_ucs, ot_rdf, he28]; exact hsl.2.1) (by simp (disch := decide) only [ot_rd, ot_rs, ot_rf, ot_ucd, ot_ucs, ot_rdf, he28]; exact hsl.2.2) (by omega) (fun k k1 k2 => by rw [hg28.1 k k1 k2]; have := hlr (ot_or c0 (ot_shl 1 (j : Int))) k k1 k2; omega) (by simp (disch := decide) only [ot_rd, ot_rs, ot_rf, ot_ucd, ot_ucs, ot_rdf, he28]; exact htl) (by rw [hg28.2.1]; exact hcc28.1.symm) (by rw [hg28.2.2]; exact hcc28.2.symm)) (k_45 _ _) ⟨_, rfl, rfl⟩ rfl rfl (Nat.le_of_ble_eq_true rfl) (by omega) (by decide) (by decide) dX2_choose_53 (fun L53 μ53 hp => ?_)
      obtain ⟨rfl, hq53, hC53, h4553, hk53, h353, h453⟩ := hp
      simp (disch := decide) only [ot_rd, ot_rs, ot_rf, ot_ucd, ot_ucs, ot_rdf, he28] at hC53 hk53
      have he53 : ∀ k, k ∉ [38, 39, 45, 46] → μ53 k = μ k := fun k hk => by rw [hq53 k hk]; exact he28 k hk
      have hg53 : ∀ k, 0 ≤ k → k < 64 → μ53 46 k = lkS (μ 11) dl c0 k := fun k k1 k2 => by
        rw [hk53 k, hg28.1 k k1 k2, hlk k]
        split
        · rfl
        · omega
      have hcc53 := cnt_congr hg53
      refine tt_vret X ⟨hr.1, hr.2.1⟩ (by decide) (by decide) dX2_choose_56 ?_
      refine ⟨rfl, he53, hC53, ⟨hg53, by rw [h353]; exact hcc53.1, by rw [h453]; exact hcc53.2⟩, ?_, ?_⟩
      · rw [h4553 5 (by decide) (by decide), h4553 6 (by decide) (by decide), h4553 7 (by decide) (by decide)]
        show _ = bkS (vlS (μ 11) dl) j (ot_or c0 (ot_shl 1 (j : Int))) (bkS (vlS (μ 11) dl) j c0 (μ 45 5, μ 45 6, μ 45 7))
        rw [h285, h286, h287, hs22]
        exact (bkS_over hdm j _ _ (by omega) (by omega) hcb2 (by rw [← hr28]; omega)).symm
      · rw [h4553 5 (by decide) (by decide), e2]
        omega
    · refine tt_aload_n X rfl dX2_choose_38 ?_
      refine tt_iload_n X rfl dX2_choose_39 ?_
      refine tt_iconst X dX2_choose_40 ?_
      refine tt_isub X dX2_choose_41 ?_
      refine tt_top (show (((j + 1 : Nat) : Int) - 1 - 1) = (j : Int) - 1 by omega) ?_
      refine tt_iload_n X rfl dX2_choose_42 ?_
      refine tt_iconst X dX2_choose_43 ?_
      refine tt_iload_n X rfl dX2_choose_44 ?_
      refine tt_top (show (((j + 1 : Nat) : Int) - 1) = (j : Int) by omega) ?_
      refine tt_ishl X dX2_choose_45 ?_
      refine tt_ior X dX2_choose_46 ?_
      refine tt_vv X rfl mX2_56 (IH _ (ot_or c0 (ot_shl 1 (j : Int))) (by simp (disch := decide) only [ot_rd, ot_rs, ot_rf, ot_ucd, ot_ucs, ot_rdf, he28]; exact hdl) (by omega) (by simp (disch := decide) only [ot_rd, ot_rs, ot_rf, ot_ucd, ot_ucs, ot_rdf, he28]; omega) (by omega) hcb2 (by simp (disch := decide) only [ot_rd, ot_rs, ot_rf, ot_ucd, ot_ucs, ot_rdf, he28]; omega) (by simp (disch := decide) only [ot_rd, ot_rs, ot_rf, ot_ucd, ot_ucs, ot_rdf, he28]; exact hG) (by simp (disch := decide) only [ot_rd, ot_rs, ot_rf, ot_ucd, ot_ucs, ot_rdf, he28]; exact hC28) (by simp (disch := decide) only [ot_rd, ot_rs, ot_rf, ot_ucd, ot_ucs, ot_rdf, he28]; exact hset) (by simp (disch := decide) only [ot_rd, ot_rs, ot_rf, ot_ucd, ot_ucs, ot_rdf, he28]; exact htl) (by simp (disch := decide) only [ot_rd, ot_rs, ot_rf, ot_ucd, ot_ucs, ot_rdf, he28]; exact hg28) (by rw [h285]; omega)) (k_45 _ _) ⟨_, rfl, rfl⟩ rfl rfl (Nat.le_of_ble_eq_true rfl) (by omega) (by decide) (by decide) dX2_choose_47 (fun L47 μ47 hp => ?_)
      obtain ⟨rfl, hq47, hC47, hg47, hs47, hn47⟩ := hp
      simp (disch := decide) only [ot_rd, ot_rs, ot_rf, ot_ucd, ot_ucs, ot_rdf, he28] at hC47 hg47 hs47
      have he47 : ∀ k, k ∉ [38, 39, 45, 46] → μ47 k = μ k := fun k hk => by rw [hq47 k hk]; exact he28 k hk
      have hcc47 := cnt_congr hg47.1
      rw [h285, h286, h287, hs22] at hs47
      refine tt_aload_n X rfl dX2_choose_50 ?_
      refine tt_iload_n X rfl dX2_choose_51 ?_
      refine tt_top (show (((j + 1 : Nat) : Int) - 1) = (j : Int) by omega) ?_
      refine tt_iconst X dX2_choose_52 ?_
      refine tt_vv X rfl mX2_64 (c_take l g ln ext _ (j : Int) (1) (by simp (disch := decide) only [ot_rd, ot_rs, ot_rf, ot_ucd, ot_ucs, ot_rdf, he47]; exact hG) (by simp (disch := decide) only [ot_rd, ot_rs, ot_rf, ot_ucd, ot_ucs, ot_rdf, he47]; exact hC47) (by omega) (by simp (disch := decide) only [ot_rd, ot_rs, ot_rf, ot_ucd, ot_ucs, ot_rdf, he47]; exact hsl.1) (by simp (disch := decide) only [ot_rd, ot_rs, ot_rf, ot_ucd, ot_ucs, ot_rdf, he47]; exact hsl.2.1) (by simp (disch := decide) only [ot_rd, ot_rs, ot_rf, ot_ucd, ot_ucs, ot_rdf, he47]; exact hsl.2.2) (by omega) (fun k k1 k2 => by rw [hg47.1 k k1 k2]; have := hlr (ot_or c0 (ot_shl 1 (j : Int))) k k1 k2; omega) (by simp (disch := decide) only [ot_rd, ot_rs, ot_rf, ot_ucd, ot_ucs, ot_rdf, he47]; exact htl) (by rw [hg47.2.1]; exact hcc47.1.symm) (by rw [hg47.2.2]; exact hcc47.2.symm)) (k_45 _ _) ⟨_, rfl, rfl⟩ rfl rfl (Nat.le_of_ble_eq_true rfl) (by omega) (by decide) (by decide) dX2_choose_53 (fun L53 μ53 hp => ?_)
      obtain ⟨rfl, hq53, hC53, h4553, hk53, h353, h453⟩ := hp
      simp (disch := decide) only [ot_rd, ot_rs, ot_rf, ot_ucd, ot_ucs, ot_rdf, he47] at hC53 hk53
      have he53 : ∀ k, k ∉ [38, 39, 45, 46] → μ53 k = μ k := fun k hk => by rw [hq53 k hk]; exact he47 k hk
      have hg53 : ∀ k, 0 ≤ k → k < 64 → μ53 46 k = lkS (μ 11) dl c0 k := fun k k1 k2 => by
        rw [hk53 k, hg47.1 k k1 k2, hlk k]
        split
        · rfl
        · omega
      have hcc53 := cnt_congr hg53
      refine tt_vret X ⟨hr.1, hr.2.1⟩ (by decide) (by decide) dX2_choose_56 ?_
      refine ⟨rfl, he53, hC53, ⟨hg53, by rw [h353]; exact hcc53.1, by rw [h453]; exact hcc53.2⟩, ?_, ?_⟩
      · rw [h4553 5 (by decide) (by decide), h4553 6 (by decide) (by decide), h4553 7 (by decide) (by decide)]
        show _ = bkS (vlS (μ 11) dl) j (ot_or c0 (ot_shl 1 (j : Int))) (bkS (vlS (μ 11) dl) j c0 (μ 45 5, μ 45 6, μ 45 7))
        exact hs47
      · rw [h4553 5 (by decide) (by decide), e2]
        omega
  · exact absurd b1 (by omega)
theorem c_choose (l : Launch) (g : ot_G) (ln : Nat) (ext : ot_L) (dl : Int → Int → Int) : ∀ (j : Nat) (μ : ot_M) (c0 : Int)  (hdl : dl = (fun x k => dkL (μ 1 11) (μ 2) (μ 3) (μ 9) (μ 10) (μ 1 13).toNat x k))   (hj : j ≤ 12) (hjL : (j : Int) ≤ μ 1 13) (hc : 0 ≤ c0 ∧ c0 < 4096) (hcb : ∀ i : Nat, i < j → bt c0 i = false) (hM : 0 ≤ μ 1 13 ∧ μ 1 13 ≤ 12) (hG : gPin (μ 1 11) (μ 1 12) (μ 2) (μ 3)) (hCh : gChd (μ 1 11) (μ 1 12) (μ 2) (μ 3) (μ 38) (μ 39)) (hset : ∀ i, 0 ≤ i → i < μ 1 13 → (0 ≤ μ 9 i ∧ μ 9 i < μ 1 12) ∧ (0 ≤ μ 10 i ∧ μ 10 i < μ 1 12) ∧ μ 9 i ≠ μ 10 i) (htl : ∀ k, 0 ≤ k → k < 64 → -1 ≤ μ 11 k ∧ μ 11 k ≤ 9999) (hgu : ((∀ k, 0 ≤ k → k < 64 → μ 46 k = lkS (μ 11) dl c0 k) ∧ μ 45 3 = cntN (lkS (μ 11) dl c0) ∧ μ 45 4 = cntO (lkS (μ 11) dl c0))) (hn : 0 ≤ μ 45 5 ∧ μ 45 5 + ((2 ^ j : Nat) : Int) ≤ 5000), ot_C l g yX2_choose cX2_choose 3 none (6 + j) 0 0 [.inr 45, .inl ((j : Int) - 1), .inl c0] (LL ln ext) μ (ot_pv (fun L2 μ2 => L2 = LL ln ext ∧ eqx [38, 39, 45, 46] μ μ2 ∧ gChd (μ 1 11) (μ 1 12) (μ 2) (μ 3) (μ2 38) (μ2 39) ∧ ((∀ k, 0 ≤ k → k < 64 → μ2 46 k = lkS (μ 11) dl c0 k) ∧ μ2 45 3 = cntN (lkS (μ 11) dl c0) ∧ μ2 45 4 = cntO (lkS (μ 11) dl c0)) ∧ (μ2 45 5, μ2 45 6, μ2 45 7) = bkS (vlS (μ 11) dl) j c0 (μ 45 5, μ 45 6, μ 45 7) ∧ (0 ≤ μ2 45 5 ∧ μ2 45 5 ≤ μ 45 5 + ((2 ^ j : Nat) : Int))))
  | 0, μ, c0, hdl, h1, h2, h3, h4, h5, h6, h7, h8, h9, h10, h11 => c_choose0 l g ln ext μ dl hdl 0 c0 h1 h2 h3 h4 h5 h6 h7 h8 h9 h10 h11 rfl
  | j + 1, μ, c0, hdl, h1, h2, h3, h4, h5, h6, h7, h8, h9, h10, h11 => c_chooseS l g ln ext μ dl hdl j c0 h1 h2 h3 h4 h5 h6 h7 h8 h9 h10 h11 (c_choose l g ln ext dl j)

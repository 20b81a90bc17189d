theorem lkS_zero {S : Int} {px py la lb tl : Int → Int} {L : Nat} {dl : Int → Int → Int} {k : Int} (hdl : dl = (fun x k => dkL S px py la lb L x k)) (ht : -1 ≤ tl k) : lkS tl dl 0 k = max (tl k) 0 := by
  unfold lkS
  rw [hdl]
  dsimp only
  have : dkL S px py la lb L 0 k = 0 := sumN_zero (fun i _ _ => by rw [bt_zero]; rfl)
  rw [this]
  split <;> omega
theorem cnt0 {f : Int → Int} (h : ∀ k, 0 ≤ k → k < 64 → 0 ≤ f k) : cntO f = 0 := sumN_zero (fun k k1 k2 => if_neg (by have := h k k1 (by omega); omega))
theorem bkS_all (vl : Int → Bool) {j : Nat} (hj : j ≤ 12) (s : Int × Int × Int) : bkS vl j 0 s = bkF vl 0 (2 ^ j) s := by
  have h := bkS_F vl j 0 s hj (by rw [Nat.mul_zero, Nat.zero_add]; exact Nat.le_trans (Nat.pow_le_pow_right (by decide) hj) (by decide))
  rw [Nat.mul_zero] at h
  exact h
set_option maxRecDepth 100000 in
set_option maxHeartbeats 1000000 in
theorem c_tryAll (l : Launch) (g : ot_G) (ln : Nat) (ext : ot_L) (μ : ot_M) (dl : Int → Int → Int) (hdl : dl = (fun x k => dkL (μ 1 11) (μ 2) (μ 3) (μ 9) (μ 10) (μ 1 13).toNat x k)) (hM : 0 ≤ μ 1 13 ∧ μ 1 13 ≤ 12) (hG : gPin (μ 1 11) (μ 1 12) (μ 2) (μ 3)) (hCh : gChd (μ 1 11) (μ 1 12) (μ 2) (μ 3) (μ 38) (μ 39)) (hset : ∀ i, 0 ≤ i → i < μ 1 13 → (0 ≤ μ 9 i ∧ μ 9 i < μ 1 12) ∧ (0 ≤ μ 10 i ∧ μ 10 i < μ 1 12) ∧ μ 9 i ≠ μ 10 i) (htl : ∀ k, 0 ≤ k → k < 64 → -1 ≤ μ 11 k ∧ μ 11 k ≤ 9999)  : ot_C l g yX2_tryAll cX2_tryAll 2 none 20 0 0 [.inr 45] (LL ln ext) μ (ot_pv (fun L2 μ2 => L2 = LL ln ext ∧ eqx [38, 39, 45, 46] μ μ2 ∧ gChd (μ 1 11) (μ 1 12) (μ 2) (μ 3) (μ2 38) (μ2 39) ∧ (μ2 45 5, μ2 45 6, μ2 45 7) = bkF (vlS (μ 11) dl) 0 (2 ^ (μ 1 13).toNat) (0, -1, 0))) := by
  refine ot_enter (by decide) (Nat.le_of_ble_eq_true rfl) ?_
  intro p e s m args below meth c X hr
  refine tt_aload_n X rfl dX2_tryAll_0 ?_
  refine tt_iconst X dX2_tryAll_1 ?_
  refine tt_puti X fX2_23 kc_2 (k_45 _ _) (by decide) (fun q hq => by cases hq; rfl) rfl dX2_tryAll_2 ?_
  refine tt_aload_n X rfl dX2_tryAll_5 ?_
  refine tt_iconst X dX2_tryAll_6 ?_
  refine tt_puti X fX2_27 kc_2 (k_45 _ _) (by decide) (fun q hq => by cases hq; rfl) rfl dX2_tryAll_7 ?_
  refine tt_iconst X dX2_tryAll_10 ?_
  refine tt_istore_n X dX2_tryAll_11 (by decide) ?_
  refine tt_mem (μ' := ot_up (ot_up (ot_uc μ 46 (wr ((0 : Int)) (μ 46) (fun k => max (μ 11 k) 0))) 45 4 0) 45 3 (sumN (fun k => if (fun k => max (μ 11 k) 0) k ≠ 0 then 1 else 0) ((0 : Int)).toNat)) (by rw [wr_zero, ot_uc_self]; funext u v; by_cases u1 : u = 45 <;> by_cases v1 : v = 3 <;> by_cases v2 : v = 4 <;> simp_all [ot_up, sumN]) ?_
  refine tt_loc [(0, _), (1, _)] ⟨rfl, rfl, trivial⟩ ?_
  refine tt_loop (α := Int) (fun i => (64 - i).toNat) (fun i => 0 ≤ i ∧ i ≤ 64) (fun i => ot_up (ot_up (ot_uc μ 46 (wr (i) (μ 46) (fun k => max (μ 11 k) 0))) 45 4 0) 45 3 (sumN (fun k => if (fun k => max (μ 11 k) 0) k ≠ 0 then 1 else 0) (i).toNat)) (fun i => [(0, .inr 45), (1, .inl i)]) 0 (by omega) ?_
  intro i hI ih
  try dsimp only at hI ih ⊢
  refine tt_iload_n X rfl dX2_tryAll_12 ?_
  refine tt_bipush X (by decide) dX2_tryAll_13 ?_
  refine tt_icmp_ge X 62 (by first | omega | (simp (disch := decide) only [ot_rd, ot_rs, ot_rf, ot_ucd, ot_ucs]; omega)) dX2_tryAll_15 (by decide) (fun b15 => ?_) (fun b15 => ?_)
  · refine tt_aload_n X rfl dX2_tryAll_62 ?_
    refine tt_iconst X dX2_tryAll_63 ?_
    refine tt_puti X fX2_41 kc_2 (k_45 _ _) (by decide) (fun q hq => by cases hq; rfl) rfl dX2_tryAll_64 ?_
    refine tt_aload_n X rfl dX2_tryAll_67 ?_
    refine tt_iconst X dX2_tryAll_68 ?_
    refine tt_puti X fX2_44 kc_2 (k_45 _ _) (by decide) (fun q hq => by cases hq; rfl) rfl dX2_tryAll_69 ?_
    refine tt_aload_n X rfl dX2_tryAll_72 ?_
    refine tt_iconst X dX2_tryAll_73 ?_
    refine tt_puti X fX2_47 kc_2 (k_45 _ _) (by decide) (fun q hq => by cases hq; rfl) rfl dX2_tryAll_74 ?_
    refine tt_aload_n X rfl dX2_tryAll_77 ?_
    refine tt_aload_n X rfl dX2_tryAll_78 ?_
    refine tt_getr X fX2_15 (k_45 _ _) (by decide) ⟨nofun, nofun⟩ rfl dX2_tryAll_79 ?_
    refine tt_geti X fX2_50 (k_1 _ _) (by decide) (Or.inl rfl) dX2_tryAll_82 ?_
    try simp (disch := decide) only [ot_rd, ot_rs, ot_rf, ot_ucd, ot_ucs]
    refine tt_bipush X (by decide) dX2_tryAll_85 ?_
    refine tt_min X rfl mX2_53 (by omega) (Nat.le_of_ble_eq_true rfl) (by decide) (by decide) dX2_tryAll_87 ?_
    refine tt_iconst X dX2_tryAll_90 ?_
    refine tt_isub X dX2_tryAll_91 ?_
    refine tt_top (show _ = (((μ 1 13).toNat : Nat) : Int) - 1 by omega) ?_
    refine tt_iconst X dX2_tryAll_92 ?_
    refine tt_gen (fun ρ hρ => ?_)
    have heρ : ∀ k, k ∉ [38, 39, 45, 46] → ρ k = μ k := by
      have : eqx [38, 39, 45, 46] μ ρ := by
        rw [hρ]
        repeat first | exact eqx_rfl _ _ | refine eqx_uc ?_ (by decide) | refine eqx_up ?_ (by decide)
      exact this
    have h64 : i = 64 := by omega
    have hlz : ∀ k, 0 ≤ k → k < 64 → lkS (μ 11) dl 0 k = max (μ 11 k) 0 := fun k k1 k2 => lkS_zero hdl (htl k k1 k2).1
    have hgρ : ((∀ k, 0 ≤ k → k < 64 → ρ 46 k = lkS (μ 11) dl 0 k) ∧ ρ 45 3 = cntN (lkS (μ 11) dl 0) ∧ ρ 45 4 = cntO (lkS (μ 11) dl 0)) := by
      refine ⟨fun k k1 k2 => ?_, ?_, ?_⟩
      · rw [hlz k k1 k2, hρ]; simp (disch := decide) only [ot_rd, ot_rs, ot_rf, ot_ucd, ot_ucs, ot_rdf]; rw [wr_in (by omega)]
      · rw [(cnt_congr hlz).1, hρ]; simp (disch := decide) only [ot_rd, ot_rs, ot_rf, ot_ucd, ot_ucs, ot_rdf]; rw [h64]; rfl
      · rw [(cnt_congr hlz).2, hρ]; simp (disch := decide) only [ot_rd, ot_rs, ot_rf, ot_ucd, ot_ucs, ot_rdf]; exact (cnt0 (fun k _ _ => by show 0 ≤ max (μ 11 k) 0; omega)).symm
    have hs5 : ρ 45 5 = 0 := by rw [hρ]; simp (disch := decide) only [ot_rd, ot_rs, ot_rf, ot_ucd, ot_ucs, ot_rdf]
    have hs6 : ρ 45 6 = -1 := by rw [hρ]; simp (disch := decide) only [ot_rd, ot_rs, ot_rf, ot_ucd, ot_ucs, ot_rdf]
    have hs7 : ρ 45 7 = 0 := by rw [hρ]; simp (disch := decide) only [ot_rd, ot_rs, ot_rf, ot_ucd, ot_ucs, ot_rdf]
    have hCρ : gChd (μ 1 11) (μ 1 12) (μ 2) (μ 3) (ρ 38) (ρ 39) := by rw [hρ]; simp (disch := decide) only [ot_rd, ot_rs, ot_rf, ot_ucd, ot_ucs, ot_rdf]; exact hCh
    have hpl : (2 ^ (μ 1 13).toNat : Nat) ≤ 4096 := Nat.le_trans (Nat.pow_le_pow_right (by decide) (show (μ 1 13).toNat ≤ 12 by omega)) (by decide)
    refine tt_vv X rfl mX2_56 (c_choose l g ln ext dl (μ 1 13).toNat _ 0 (by simp (disch := decide) only [heρ]; exact hdl) (by omega) (by simp (disch := decide) only [heρ]; omega) (by omega) (fun i _ => bt_zero _) (by simp (disch := decide) only [heρ]; omega) (by simp (disch := decide) only [heρ]; exact hG) (by simp (disch := decide) only [heρ]; exact hCρ) (by simp (disch := decide) only [heρ]; exact hset) (by simp (disch := decide) only [heρ]; exact htl) (by simp (disch := decide) only [heρ]; exact hgρ) (by rw [hs5]; omega)) (k_45 _ _) ⟨_, rfl, rfl⟩ rfl rfl (Nat.le_of_ble_eq_true rfl) (by omega) (by decide) (by decide) dX2_tryAll_93 (fun L93 μ93 hp => ?_)
    obtain ⟨rfl, hq93, hC93, hg93, hs93, hn93⟩ := hp
    simp (disch := decide) only [heρ] at hC93 hs93
    refine tt_vret X ⟨hr.1, hr.2.1⟩ (by decide) (by decide) dX2_tryAll_96 ?_
    refine ⟨rfl, fun k hk => (hq93 k hk).trans (heρ k hk), hC93, ?_⟩
    rw [hs93, hs5, hs6, hs7]
    exact bkS_all _ (by omega) _
  · have hti := htl i (by omega) (by omega)
    refine tt_aload_n X rfl dX2_tryAll_18 ?_
    refine tt_getr X fX2_9 (k_45 _ _) (by decide) ⟨nofun, nofun⟩ rfl dX2_tryAll_19 ?_
    refine tt_iload_n X rfl dX2_tryAll_22 ?_
    refine tt_aload_n X rfl dX2_tryAll_23 ?_
    refine tt_getr X fX2_15 (k_45 _ _) (by decide) ⟨nofun, nofun⟩ rfl dX2_tryAll_24 ?_
    refine tt_getr X fX2_30 (k_1 _ _) (by decide) ⟨nofun, nofun⟩ rfl dX2_tryAll_27 ?_
    refine tt_iload_n X rfl dX2_tryAll_30 ?_
    refine tt_iaload X (k_11 _ _) (by first | omega | (simp (disch := decide) only [ot_rd, ot_rs, ot_rf, ot_ucd, ot_ucs]; omega)) dX2_tryAll_31 ?_
    try simp (disch := decide) only [ot_rd, ot_rs, ot_rf, ot_ucd, ot_ucs]
    refine tt_iconst X dX2_tryAll_32 ?_
    refine tt_max X rfl mX2_35 (by omega) (Nat.le_of_ble_eq_true rfl) (by decide) (by decide) dX2_tryAll_33 ?_
    refine tt_iastore X (k_46 _ _) (by first | omega | (simp (disch := decide) only [ot_rd, ot_rs, ot_rf, ot_ucd, ot_ucs]; omega)) dX2_tryAll_36 ?_
    refine tt_aload_n X rfl dX2_tryAll_37 ?_
    refine tt_getr X fX2_9 (k_45 _ _) (by decide) ⟨nofun, nofun⟩ rfl dX2_tryAll_38 ?_
    refine tt_iload_n X rfl dX2_tryAll_41 ?_
    refine tt_iaload X (k_46 _ _) (by first | omega | (simp (disch := decide) only [ot_rd, ot_rs, ot_rf, ot_ucd, ot_ucs]; omega)) dX2_tryAll_42 ?_
    try simp (disch := decide) only [ot_rd, ot_rs, ot_rf, ot_ucd, ot_ucs]
    refine tt_top (show _ = max (μ 11 i) 0 by simp (disch := decide) only [ot_rs]) ?_
    refine tt_if_eq X 56 (by first | omega | (simp (disch := decide) only [ot_rd, ot_rs, ot_rf, ot_ucd, ot_ucs]; omega)) dX2_tryAll_43 (by decide) (fun b43 => ?_) (fun b43 => ?_)
    · refine tt_iinc X dX2_tryAll_56 rfl (by decide) ?_
      refine tt_goto X 12 dX2_tryAll_59 (by decide) ?_
      refine tt_loc [(0, _), (1, _)] ⟨rfl, rfl, trivial⟩ ?_
      first
        | (refine tt_mem (μ' := ot_up (ot_up (ot_uc μ 46 (wr (i + 1) (μ 46) (fun k => max (μ 11 k) 0))) 45 4 0) 45 3 (sumN (fun k => if (fun k => max (μ 11 k) 0) k ≠ 0 then 1 else 0) (i + 1).toNat)) ?_ ?_
           · rw [sumN_toNat _ hI.1, if_neg (show ¬ (max (μ 11 i) 0 ≠ 0) by omega), show wr (i + 1) (μ 46) (fun k => max (μ 11 k) 0) = up1 (wr i (μ 46) (fun k => max (μ 11 k) 0)) i (max (μ 11 i) 0) from (wr_step hI.1 rfl).symm]
             funext u v
             by_cases u1 : u = 45
             · subst u1; by_cases v1 : v = 3 <;> by_cases v2 : v = 4 <;> simp [ot_up, ot_uc, v1, v2]
             · by_cases u2 : u = 46 <;> simp [ot_up, ot_uc, up1, u1, u2]
           exact ih (i + 1) (by omega) (by omega))
        | (refine tt_mem (μ' := ot_up (ot_up (ot_uc μ 46 (wr (i + 1) (μ 46) (fun k => max (μ 11 k) 0))) 45 4 0) 45 3 (sumN (fun k => if (fun k => max (μ 11 k) 0) k ≠ 0 then 1 else 0) (i + 1).toNat)) ?_ ?_
           · rw [sumN_toNat _ hI.1, if_pos (show max (μ 11 i) 0 ≠ 0 by omega), show wr (i + 1) (μ 46) (fun k => max (μ 11 k) 0) = up1 (wr i (μ 46) (fun k => max (μ 11 k) 0)) i (max (μ 11 i) 0) from (wr_step hI.1 rfl).symm]
             funext u v
             by_cases u1 : u = 45
             · subst u1; by_cases v1 : v = 3 <;> by_cases v2 : v = 4 <;> simp [ot_up, ot_uc, v1, v2]
             · by_cases u2 : u = 46 <;> simp [ot_up, ot_uc, up1, u1, u2]
           exact ih (i + 1) (by omega) (by omega))
    · refine tt_aload_n X rfl dX2_tryAll_46 ?_
      refine tt_dup X dX2_tryAll_47 ?_
      refine tt_geti X fX2_23 (k_45 _ _) (by decide) (Or.inl rfl) dX2_tryAll_48 ?_
      try simp (disch := decide) only [ot_rd, ot_rs, ot_rf, ot_ucd, ot_ucs]
      refine tt_iconst X dX2_tryAll_51 ?_
      refine tt_iadd X dX2_tryAll_52 ?_
      refine tt_puti X fX2_23 kc_2 (k_45 _ _) (by decide) (fun q hq => by cases hq; rfl) rfl dX2_tryAll_53 ?_
      refine tt_iinc X dX2_tryAll_56 rfl (by decide) ?_
      refine tt_goto X 12 dX2_tryAll_59 (by decide) ?_
      refine tt_loc [(0, _), (1, _)] ⟨rfl, rfl, trivial⟩ ?_
      first
        | (refine tt_mem (μ' := ot_up (ot_up (ot_uc μ 46 (wr (i + 1) (μ 46) (fun k => max (μ 11 k) 0))) 45 4 0) 45 3 (sumN (fun k => if (fun k => max (μ 11 k) 0) k ≠ 0 then 1 else 0) (i + 1).toNat)) ?_ ?_
           · rw [sumN_toNat _ hI.1, if_neg (show ¬ (max (μ 11 i) 0 ≠ 0) by omega), show wr (i + 1) (μ 46) (fun k => max (μ 11 k) 0) = up1 (wr i (μ 46) (fun k => max (μ 11 k) 0)) i (max (μ 11 i) 0) from (wr_step hI.1 rfl).symm]
             funext u v
             by_cases u1 : u = 45
             · subst u1; by_cases v1 : v = 3 <;> by_cases v2 : v = 4 <;> simp [ot_up, ot_uc, v1, v2]
             · by_cases u2 : u = 46 <;> simp [ot_up, ot_uc, up1, u1, u2]
           exact ih (i + 1) (by omega) (by omega))
        | (refine tt_mem (μ' := ot_up (ot_up (ot_uc μ 46 (wr (i + 1) (μ 46) (fun k => max (μ 11 k) 0))) 45 4 0) 45 3 (sumN (fun k => if (fun k => max (μ 11 k) 0) k ≠ 0 then 1 else 0) (i + 1).toNat)) ?_ ?_
           · rw [sumN_toNat _ hI.1, if_pos (show max (μ 11 i) 0 ≠ 0 by omega), show wr (i + 1) (μ 46) (fun k => max (μ 11 k) 0) = up1 (wr i (μ 46) (fun k => max (μ 11 k) 0)) i (max (μ 11 i) 0) from (wr_step hI.1 rfl).symm]
             funext u v
             by_cases u1 : u = 45
             · subst u1; by_cases v1 : v = 3 <;> by_cases v2 : v = 4 <;> simp [ot_up, ot_uc, v1, v2]
             · by_cases u2 : u = 46 <;> simp [ot_up, ot_uc, up1, u1, u2]
           exact ih (i + 1) (by omega) (by omega))
set_option maxRecDepth 100000 in
set_option maxHeartbeats 1000000 in
theorem c_back (l : Launch) (g : ot_G) (ln : Nat) (ext : ot_L) (μ : ot_M) (w : Int) (dl : Int → Int → Int) (hdl : dl = (fun x k => dkL (μ 1 11) (μ 2) (μ 3) (μ 9) (μ 10) (μ 1 13).toNat x k)) (hw : -2147483648 ≤ w ∧ w ≤ 2147483647)(hM : 0 ≤ μ 1 13 ∧ μ 1 13 ≤ 20) (hG : gPin (μ 1 11) (μ 1 12) (μ 2) (μ 3)) (hCh : gChd (μ 1 11) (μ 1 12) (μ 2) (μ 3) (μ 38) (μ 39)) (hset : ∀ i, 0 ≤ i → i < μ 1 13 → (0 ≤ μ 9 i ∧ μ 9 i < μ 1 12) ∧ (0 ≤ μ 10 i ∧ μ 10 i < μ 1 12) ∧ μ 9 i ≠ μ 10 i) (htl : ∀ k, 0 ≤ k → k < 64 → -1 ≤ μ 11 k ∧ μ 11 k ≤ 9999)  : ot_C l g yX9_back cX9_back 2 (some .int) 21 0 0 [.inr 0, .inl w] (LL ln ext) μ (ot_pi (fun r L2 μ2 => L2 = LL ln ext ∧ eqx [38, 39, 45, 46] μ μ2 ∧ gChd (μ 1 11) (μ 1 12) (μ 2) (μ 3) (μ2 38) (μ2 39) ∧ r = (if (μ 1 13 ≤ 12 ∧ 0 ≤ w ∧ w ≤ 2) then (if w = 0 then (bkF (vlS (μ 11) dl) 0 (2 ^ (μ 1 13).toNat) (0, -1, 0)).1 else if w = 1 then (bkF (vlS (μ 11) dl) 0 (2 ^ (μ 1 13).toNat) (0, -1, 0)).2.1 else (bkF (vlS (μ 11) dl) 0 (2 ^ (μ 1 13).toNat) (0, -1, 0)).2.2) else -2))) := by
  refine ot_enter (by decide) (Nat.le_of_ble_eq_true rfl) ?_
  intro p e s m args below meth c X hr
  refine tt_aload_n X rfl dX9_back_0 ?_
  refine tt_getr X fX9_12 (k_0 _ _) (by decide) ⟨nofun, nofun⟩ rfl dX9_back_1 ?_
  refine tt_geti X fX9_233 (k_1 _ _) (by decide) (Or.inl rfl) dX9_back_4 ?_
  refine tt_bipush X (by decide) dX9_back_7 ?_
  refine tt_icmp_gt X 21 (by omega) dX9_back_9 (by decide) (fun b9 => ?_) (fun b9 => ?_)
  · refine tt_bipush X (by decide) dX9_back_21 ?_
    refine tt_iret X ⟨hr.1, hr.2.1⟩ (by decide) (by decide) dX9_back_23 ?_
    exact ⟨rfl, eqx_rfl _ _, hCh, by rw [if_neg (by omega)]⟩
  · refine tt_iload_n X rfl dX9_back_12 ?_
    refine tt_if_lt X 21 (by omega) dX9_back_13 (by decide) (fun b13 => ?_) (fun b13 => ?_)
    · refine tt_bipush X (by decide) dX9_back_21 ?_
      refine tt_iret X ⟨hr.1, hr.2.1⟩ (by decide) (by decide) dX9_back_23 ?_
      exact ⟨rfl, eqx_rfl _ _, hCh, by rw [if_neg (by omega)]⟩
    · refine tt_iload_n X rfl dX9_back_16 ?_
      refine tt_iconst X dX9_back_17 ?_
      refine tt_icmp_le X 24 (by omega) dX9_back_18 (by decide) (fun b18 => ?_) (fun b18 => ?_)
      · refine tt_aload_n X rfl dX9_back_24 ?_
        refine tt_getr X fX9_53 (k_0 _ _) (by decide) ⟨nofun, nofun⟩ rfl dX9_back_25 ?_
        refine tt_vv X rfl mX9_270 (c_tryAll l g ln ext _ dl hdl (by omega) hG hCh hset htl) (k_45 _ _) ⟨_, rfl, rfl⟩ rfl rfl (Nat.le_of_ble_eq_true rfl) (by omega) (by decide) (by decide) dX9_back_28 (fun L28 μ28 hp => ?_)
        obtain ⟨rfl, hq28, hC28, hs28⟩ := hp
        refine tt_iload_n X rfl dX9_back_31 ?_
        rcases (show w = 0 ∨ w = 1 ∨ (w ≠ 0 ∧ w ≠ 1) by omega) with sw | sw | sw
        · refine tt_lookup X 60 (by omega) dX9_back_32 (by decide) (by first | (rw [sw]; done) | (rw [sw]; rfl)) (by decide) ?_
          refine tt_aload_n X rfl dX9_back_60 ?_
          refine tt_getr X fX9_53 (k_0 _ _) (by decide) ⟨nofun, nofun⟩ rfl dX9_back_61 ?_
          refine tt_geti X fX9_273 (k_45 _ _) (by decide) (Or.inl rfl) dX9_back_64 ?_
          try simp (disch := decide) only [ot_rd, ot_rs, ot_rf, ot_ucd, ot_ucs]
          refine tt_iret X ⟨hr.1, hr.2.1⟩ (by decide) (by decide) dX9_back_67 ?_
          refine ⟨rfl, hq28, hC28, ?_⟩
          rw [if_pos (by omega), ← hs28]
          rw [if_pos (by omega)]
        · refine tt_lookup X 68 (by omega) dX9_back_32 (by decide) (by first | (rw [sw]; done) | (rw [sw]; rfl)) (by decide) ?_
          refine tt_aload_n X rfl dX9_back_68 ?_
          refine tt_getr X fX9_53 (k_0 _ _) (by decide) ⟨nofun, nofun⟩ rfl dX9_back_69 ?_
          refine tt_geti X fX9_276 (k_45 _ _) (by decide) (Or.inl rfl) dX9_back_72 ?_
          try simp (disch := decide) only [ot_rd, ot_rs, ot_rf, ot_ucd, ot_ucs]
          refine tt_iret X ⟨hr.1, hr.2.1⟩ (by decide) (by decide) dX9_back_75 ?_
          refine ⟨rfl, hq28, hC28, ?_⟩
          rw [if_pos (by omega), ← hs28]
          rw [if_neg (by omega), if_pos (by omega)]
        · refine tt_lookup X (off := 44) 76 (by omega) dX9_back_32 (by decide) (by simp [Op.lookupswitch.offset_cons, Op.lookupswitch.offset, sw] <;> omega) (by decide) ?_
          refine tt_aload_n X rfl dX9_back_76 ?_
          refine tt_getr X fX9_53 (k_0 _ _) (by decide) ⟨nofun, nofun⟩ rfl dX9_back_77 ?_
          refine tt_geti X fX9_279 (k_45 _ _) (by decide) (Or.inl rfl) dX9_back_80 ?_
          try simp (disch := decide) only [ot_rd, ot_rs, ot_rf, ot_ucd, ot_ucs]
          refine tt_iret X ⟨hr.1, hr.2.1⟩ (by decide) (by decide) dX9_back_83 ?_
          refine ⟨rfl, hq28, hC28, ?_⟩
          rw [if_pos (by omega), ← hs28]
          rw [if_neg (by omega), if_neg (by omega)]
      · refine tt_bipush X (by decide) dX9_back_21 ?_
        refine tt_iret X ⟨hr.1, hr.2.1⟩ (by decide) (by decide) dX9_back_23 ?_
        exact ⟨rfl, eqx_rfl _ _, hCh, by rw [if_neg (by omega)]⟩

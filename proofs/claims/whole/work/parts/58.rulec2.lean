theorem ot_rdf {μ : ot_M} {k k' : Nat} {i v : Int} (h : k' ≠ k) : ot_up μ k i v k' = μ k' := by funext j; simp [ot_up, h]
theorem gH_bt {k s n a b : Int} {F : Int → Int} (hn : n ≤ 24) (h : gH k s n n F) (ha : 0 ≤ a ∧ a < n) (hb : 0 ≤ b ∧ b < n) (hab : a ≠ b) : bt (F (min a b)) (max a b) = eP k s n n a b := by
  rw [(h (min a b) (by omega) (by omega)).2 (max a b) (by omega) (by omega)]
  rcases (show (min a b = a ∧ max a b = b) ∨ (min a b = b ∧ max a b = a) by omega) with w | w
  · rw [w.1, w.2]
  · rw [w.1, w.2, eP_comm]
theorem ite_one {b : Bool} {z : Int} (h : z = if b then 1 else 0) (w : z ≠ 0) : b = true := by cases b <;> simp_all
theorem ite_nil {b : Bool} {z : Int} (h : z = if b then 1 else 0) (w : z = 0) : b = false := by cases b <;> simp_all
theorem sumN_ext {f : Int → Int} {m : Nat} {i : Int} (h : (m : Int) = i) : sumN f m = sumN f i.toNat := by rw [show m = i.toNat by omega]
set_option maxRecDepth 100000 in
set_option maxHeartbeats 1000000 in
theorem c_isSameTurned (l : Launch) (g : ot_G) (ln : Nat) (ext : ot_L) (μ : ot_M) (k s0 t : Int) (hN : 0 < μ 1 12 ∧ μ 1 12 ≤ 24) (ht : 1 ≤ t ∧ t ≤ μ 1 12) (hH : gH k s0 (μ 1 12) (μ 1 12) (μ 48)) : ot_C l g yX6_isSameTurned cX6_isSameTurned 4 (some .boolean) 2 0 0 [.inr 47, .inl t] (LL ln ext) μ (ot_pi (fun r L2 μ2 => L2 = LL ln ext ∧ μ2 = μ ∧ (r = 0 ∨ r = 1) ∧ ot_im r 1 (sameT k s0 (μ 1 12) t) ∧ ot_im r 0 (¬ sameT k s0 (μ 1 12) t))) := by
  refine ot_enter (by decide) (Nat.le_of_ble_eq_true rfl) ?_
  intro p e s m args below meth c X hr
  refine tt_iconst X dX6_isSameTurned_0 ?_
  refine tt_istore_n X dX6_isSameTurned_1 (by decide) ?_
  refine tt_loc [(0, _), (1, _), (2, _)] ⟨rfl, rfl, rfl, trivial⟩ ?_
  refine tt_loop (α := Int) (fun i => (μ 1 12 - i).toNat) (fun i => (0 ≤ i ∧ i ≤ μ 1 12) ∧ ∀ a b, 0 ≤ a → a < i → a < b → b < μ 1 12 → eP k s0 (μ 1 12) (μ 1 12) a b = true → eP k s0 (μ 1 12) (μ 1 12) ((a + t) % (μ 1 12)) ((b + t) % (μ 1 12)) = true) (fun i => μ) (fun i => [(0, .inr 47), (1, .inl t), (2, .inl i)]) 0 ⟨by omega, fun a b a1 a2 => by omega⟩ ?_
  intro i hIi ihi
  try dsimp only at hIi ihi ⊢
  have hi := hIi.1
  refine tt_iload_n X rfl dX6_isSameTurned_2 ?_
  refine tt_aload_n X rfl dX6_isSameTurned_3 ?_
  refine tt_getr X fX6_15 (k_47 _ _) (by decide) ⟨nofun, nofun⟩ rfl dX6_isSameTurned_4 ?_
  refine tt_geti X fX6_33 (k_1 _ _) (by decide) (Or.inl rfl) dX6_isSameTurned_7 ?_
  try simp (disch := decide) only [ot_rd, ot_rs, ot_rf, ot_ucd, ot_ucs]
  refine tt_icmp_ge X 80 (by first | omega | (simp (disch := decide) only [ot_rd, ot_rs, ot_rf, ot_ucd, ot_ucs]; omega)) dX6_isSameTurned_10 (by decide) (fun b10 => ?_) (fun b10 => ?_)
  · refine tt_iconst X dX6_isSameTurned_80 ?_
    refine tt_zret X ⟨hr.1, hr.2.1⟩ (by omega) (by decide) (by decide) dX6_isSameTurned_81 ?_
    exact ⟨rfl, rfl, by omega, fun _ => sameT_of hN.1 (fun a b a1 a2 a3 => hIi.2 a b a1 (by omega) a2 a3), fun w => by omega⟩
  · refine tt_iload_n X rfl dX6_isSameTurned_13 ?_
    refine tt_iconst X dX6_isSameTurned_14 ?_
    refine tt_iadd X dX6_isSameTurned_15 ?_
    refine tt_istore_n X dX6_isSameTurned_16 (by decide) ?_
    refine tt_loc [(0, _), (1, _), (2, _), (3, _)] ⟨rfl, rfl, rfl, rfl, trivial⟩ ?_
    refine tt_loop (α := Int) (fun j => (μ 1 12 - j).toNat) (fun j => (i + 1 ≤ j ∧ j ≤ μ 1 12) ∧ ∀ b, i < b → b < j → eP k s0 (μ 1 12) (μ 1 12) i b = true → eP k s0 (μ 1 12) (μ 1 12) ((i + t) % (μ 1 12)) ((b + t) % (μ 1 12)) = true) (fun j => μ) (fun j => [(0, .inr 47), (1, .inl t), (2, .inl i), (3, .inl j)]) (i + 1) ⟨by omega, fun b b1 b2 => by omega⟩ ?_
    intro j hI ih
    try dsimp only at hI ih ⊢
    have hj := hI.1
    refine tt_iload_n X rfl dX6_isSameTurned_17 ?_
    refine tt_aload_n X rfl dX6_isSameTurned_18 ?_
    refine tt_getr X fX6_15 (k_47 _ _) (by decide) ⟨nofun, nofun⟩ rfl dX6_isSameTurned_19 ?_
    refine tt_geti X fX6_33 (k_1 _ _) (by decide) (Or.inl rfl) dX6_isSameTurned_22 ?_
    try simp (disch := decide) only [ot_rd, ot_rs, ot_rf, ot_ucd, ot_ucs]
    refine tt_icmp_ge X 74 (by first | omega | (simp (disch := decide) only [ot_rd, ot_rs, ot_rf, ot_ucd, ot_ucs]; omega)) dX6_isSameTurned_25 (by decide) (fun b25 => ?_) (fun b25 => ?_)
    · refine tt_iinc X dX6_isSameTurned_74 rfl (by decide) ?_
      refine tt_goto X 2 dX6_isSameTurned_77 (by decide) ?_
      refine tt_loc [(0, _), (1, _), (2, _)] ⟨rfl, rfl, rfl, trivial⟩ ?_
      refine ihi (i + 1) ⟨by omega, fun a b a1 a2 b1 b2 => ?_⟩ (by omega)
      rcases (show a < i ∨ a = i by omega) with w | w
      · exact hIi.2 a b a1 w b1 b2
      · rw [w] at b1 ⊢; exact hI.2 b b1 (by omega)
    · have hi2 : 0 ≤ (i + t) % (μ 1 12) ∧ (i + t) % (μ 1 12) < μ 1 12 := ⟨Int.emod_nonneg _ (by omega), Int.emod_lt_of_pos _ (by omega)⟩
      have hj2 : 0 ≤ (j + t) % (μ 1 12) ∧ (j + t) % (μ 1 12) < μ 1 12 := ⟨Int.emod_nonneg _ (by omega), Int.emod_lt_of_pos _ (by omega)⟩
      refine tt_aload_n X rfl dX6_isSameTurned_28 ?_
      refine tt_iload_n X rfl dX6_isSameTurned_29 ?_
      refine tt_iload_n X rfl dX6_isSameTurned_30 ?_
      refine tt_vi X rfl mX6_38 (c_hasLine l g ln ext _ _ _ (by omega) (by omega) (by (try simp (disch := decide) only [ot_ucd, ot_ucs, ot_rd, ot_rs, ot_rf, ot_rdf]); exact (hH _ (by omega) (by omega)).1)) (k_47 _ _) ⟨_, rfl, rfl⟩ rfl rfl (Nat.le_of_ble_eq_true rfl) (by decide) (by decide) (by decide) dX6_isSameTurned_31 (fun z31 L31 μ31 hp => ?_)
      obtain ⟨rfl, e31, hz31⟩ := hp
      replace e31 := e31.symm
      subst e31
      try simp (disch := decide) only [ot_ucd, ot_ucs, ot_rd, ot_rs, ot_rf, ot_rdf] at hz31
      rw [gH_bt (by omega) hH (by omega) (by omega) (by first | omega | exact mod_ne (by omega) (by omega) (by omega))] at hz31
      try simp (disch := decide) only [ot_rd, ot_rs, ot_rf, ot_ucd, ot_ucs] at hz31
      refine tt_if_eq X 68 (by first | omega | (simp (disch := decide) only [ot_rd, ot_rs, ot_rf, ot_ucd, ot_ucs]; omega)) dX6_isSameTurned_34 (by decide) (fun b34 => ?_) (fun b34 => ?_)
      · refine tt_iinc X dX6_isSameTurned_68 rfl (by decide) ?_
        refine tt_goto X 17 dX6_isSameTurned_71 (by decide) ?_
        refine tt_loc [(0, _), (1, _), (2, _), (3, _)] ⟨rfl, rfl, rfl, rfl, trivial⟩ ?_
        refine ih (j + 1) ⟨by omega, fun b b1 b2 => ?_⟩ (by omega)
        rcases (show b < j ∨ b = j by omega) with w | w
        · exact hI.2 b b1 w
        · rw [w]; intro w2
          first | exact ite_one hz60 (by omega) | (have w3 := ite_nil hz31 (by omega); rw [w2] at w3; cases w3)
      · refine tt_aload_n X rfl dX6_isSameTurned_37 ?_
        refine tt_iload_n X rfl dX6_isSameTurned_38 ?_
        refine tt_iload_n X rfl dX6_isSameTurned_39 ?_
        refine tt_iadd X dX6_isSameTurned_40 ?_
        refine tt_aload_n X rfl dX6_isSameTurned_41 ?_
        refine tt_getr X fX6_15 (k_47 _ _) (by decide) ⟨nofun, nofun⟩ rfl dX6_isSameTurned_42 ?_
        refine tt_geti X fX6_33 (k_1 _ _) (by decide) (Or.inl rfl) dX6_isSameTurned_45 ?_
        try simp (disch := decide) only [ot_rd, ot_rs, ot_rf, ot_ucd, ot_ucs]
        refine tt_irem X (by omega) dX6_isSameTurned_48 ?_
        refine tt_top (bo_rem (by omega) (by omega)) ?_
        refine tt_iload_n X rfl dX6_isSameTurned_49 ?_
        refine tt_iload_n X rfl dX6_isSameTurned_50 ?_
        refine tt_iadd X dX6_isSameTurned_51 ?_
        refine tt_aload_n X rfl dX6_isSameTurned_52 ?_
        refine tt_getr X fX6_15 (k_47 _ _) (by decide) ⟨nofun, nofun⟩ rfl dX6_isSameTurned_53 ?_
        refine tt_geti X fX6_33 (k_1 _ _) (by decide) (Or.inl rfl) dX6_isSameTurned_56 ?_
        try simp (disch := decide) only [ot_rd, ot_rs, ot_rf, ot_ucd, ot_ucs]
        refine tt_irem X (by omega) dX6_isSameTurned_59 ?_
        refine tt_top (bo_rem (by omega) (by omega)) ?_
        refine tt_vi X rfl mX6_38 (c_hasLine l g ln ext _ _ _ (by omega) (by omega) (by (try simp (disch := decide) only [ot_ucd, ot_ucs, ot_rd, ot_rs, ot_rf, ot_rdf]); exact (hH _ (by omega) (by omega)).1)) (k_47 _ _) ⟨_, rfl, rfl⟩ rfl rfl (Nat.le_of_ble_eq_true rfl) (by decide) (by decide) (by decide) dX6_isSameTurned_60 (fun z60 L60 μ60 hp => ?_)
        obtain ⟨rfl, e60, hz60⟩ := hp
        replace e60 := e60.symm
        subst e60
        try simp (disch := decide) only [ot_ucd, ot_ucs, ot_rd, ot_rs, ot_rf, ot_rdf] at hz60
        rw [gH_bt (by omega) hH (by omega) (by omega) (by first | omega | exact mod_ne (by omega) (by omega) (by omega))] at hz60
        try simp (disch := decide) only [ot_rd, ot_rs, ot_rf, ot_ucd, ot_ucs] at hz60
        refine tt_if_ne X 68 (by first | omega | (simp (disch := decide) only [ot_rd, ot_rs, ot_rf, ot_ucd, ot_ucs]; omega)) dX6_isSameTurned_63 (by decide) (fun b63 => ?_) (fun b63 => ?_)
        · refine tt_iinc X dX6_isSameTurned_68 rfl (by decide) ?_
          refine tt_goto X 17 dX6_isSameTurned_71 (by decide) ?_
          refine tt_loc [(0, _), (1, _), (2, _), (3, _)] ⟨rfl, rfl, rfl, rfl, trivial⟩ ?_
          refine ih (j + 1) ⟨by omega, fun b b1 b2 => ?_⟩ (by omega)
          rcases (show b < j ∨ b = j by omega) with w | w
          · exact hI.2 b b1 w
          · rw [w]; intro w2
            first | exact ite_one hz60 (by omega) | (have w3 := ite_nil hz31 (by omega); rw [w2] at w3; cases w3)
        · refine tt_iconst X dX6_isSameTurned_66 ?_
          refine tt_zret X ⟨hr.1, hr.2.1⟩ (by omega) (by decide) (by decide) dX6_isSameTurned_67 ?_
          refine ⟨rfl, rfl, by omega, fun w => by omega, fun _ h => ?_⟩
          have w1 := ite_one hz31 (by omega)
          have w2 := ite_nil hz60 (by omega)
          rw [h i j (by omega) (by omega) (by omega) (by omega), w2] at w1
          cases w1
set_option maxRecDepth 100000 in
set_option maxHeartbeats 1000000 in
theorem c_leastTurn (l : Launch) (g : ot_G) (ln : Nat) (ext : ot_L) (μ : ot_M) (k s0 : Int) (hN : 0 < μ 1 12 ∧ μ 1 12 ≤ 24) (hH : gH k s0 (μ 1 12) (μ 1 12) (μ 48)) : ot_C l g yX6_leastTurn cX6_leastTurn 2 (some .int) 3 0 0 [.inr 47] (LL ln ext) μ (ot_pi (fun r L2 μ2 => L2 = LL ln ext ∧ μ2 = μ ∧ lstT k s0 (μ 1 12) r)) := by
  refine ot_enter (by decide) (Nat.le_of_ble_eq_true rfl) ?_
  intro p e s m args below meth c X hr
  refine tt_iconst X dX6_leastTurn_0 ?_
  refine tt_istore_n X dX6_leastTurn_1 (by decide) ?_
  refine tt_loc [(0, _), (1, _)] ⟨rfl, rfl, trivial⟩ ?_
  refine tt_loop (α := Int) (fun t => (μ 1 12 - t).toNat) (fun t => (1 ≤ t ∧ t ≤ μ 1 12) ∧ ∀ u, 1 ≤ u → u < t → ¬ sameT k s0 (μ 1 12) u) (fun t => μ) (fun t => [(0, .inr 47), (1, .inl t)]) 1 ⟨by omega, fun u u1 u2 => by omega⟩ ?_
  intro t hI ih
  try dsimp only at hI ih ⊢
  have ht := hI.1
  refine tt_iload_n X rfl dX6_leastTurn_2 ?_
  refine tt_aload_n X rfl dX6_leastTurn_3 ?_
  refine tt_getr X fX6_15 (k_47 _ _) (by decide) ⟨nofun, nofun⟩ rfl dX6_leastTurn_4 ?_
  refine tt_geti X fX6_33 (k_1 _ _) (by decide) (Or.inl rfl) dX6_leastTurn_7 ?_
  try simp (disch := decide) only [ot_rd, ot_rs, ot_rf, ot_ucd, ot_ucs]
  refine tt_icmp_ge X 29 (by first | omega | (simp (disch := decide) only [ot_rd, ot_rs, ot_rf, ot_ucd, ot_ucs]; omega)) dX6_leastTurn_10 (by decide) (fun b10 => ?_) (fun b10 => ?_)
  · refine tt_aload_n X rfl dX6_leastTurn_29 ?_
    refine tt_getr X fX6_15 (k_47 _ _) (by decide) ⟨nofun, nofun⟩ rfl dX6_leastTurn_30 ?_
    refine tt_geti X fX6_33 (k_1 _ _) (by decide) (Or.inl rfl) dX6_leastTurn_33 ?_
    try simp (disch := decide) only [ot_rd, ot_rs, ot_rf, ot_ucd, ot_ucs]
    refine tt_iret X ⟨hr.1, hr.2.1⟩ (by decide) (by decide) dX6_leastTurn_36 ?_
    exact ⟨rfl, rfl, by omega, sameT_all, fun u u1 u2 => hI.2 u u1 (by omega)⟩
  · refine tt_aload_n X rfl dX6_leastTurn_13 ?_
    refine tt_iload_n X rfl dX6_leastTurn_14 ?_
    refine tt_vi X rfl mX6_51 (c_isSameTurned l g ln ext _ k s0 _ (by omega) (by omega) hH) (k_47 _ _) ⟨_, rfl, rfl⟩ rfl rfl (Nat.le_of_ble_eq_true rfl) (by decide) (by decide) (by decide) dX6_leastTurn_15 (fun z15 L15 μ15 hp => ?_)
    obtain ⟨rfl, e15, hz15, hz15a, hz15b⟩ := hp
    replace e15 := e15.symm
    subst e15
    refine tt_if_eq X 23 (by first | omega | (simp (disch := decide) only [ot_rd, ot_rs, ot_rf, ot_ucd, ot_ucs]; omega)) dX6_leastTurn_18 (by decide) (fun b18 => ?_) (fun b18 => ?_)
    · refine tt_iinc X dX6_leastTurn_23 rfl (by decide) ?_
      refine tt_goto X 2 dX6_leastTurn_26 (by decide) ?_
      refine tt_loc [(0, _), (1, _)] ⟨rfl, rfl, trivial⟩ ?_
      have hns := hz15b (by omega)
      refine ih (t + 1) ⟨by omega, fun u u1 u2 => ?_⟩ (by omega)
      rcases (show u < t ∨ u = t by omega) with w | w
      · exact hI.2 u u1 w
      · rw [w]; exact hns
    · refine tt_iload_n X rfl dX6_leastTurn_21 ?_
      refine tt_iret X ⟨hr.1, hr.2.1⟩ (by decide) (by decide) dX6_leastTurn_22 ?_
      exact ⟨rfl, rfl, by omega, hz15a (by omega), hI.2⟩
set_option maxRecDepth 100000 in
set_option maxHeartbeats 1000000 in
theorem c_darkOf (l : Launch) (g : ot_G) (ln : Nat) (ext : ot_L) (μ : ot_M) (k s0 q : Int) (hq : -2147483648 ≤ q ∧ q ≤ 2147483647)(hN : 0 < μ 1 12 ∧ μ 1 12 ≤ 24) (hH : gH k s0 (μ 1 12) (μ 1 12) (μ 48)) (hG : gPin (μ 1 11) (μ 1 12) (μ 2) (μ 3)) (hCh : gChd (μ 1 11) (μ 1 12) (μ 2) (μ 3) (μ 38) (μ 39))  : ot_C l g yX6_darkOf cX6_darkOf 5 (some .int) 5 0 0 [.inr 47, .inl q] (LL ln ext) μ (ot_pi (fun r L2 μ2 => L2 = LL ln ext ∧ r = pairS (fun a b => if eP k s0 (μ 1 12) (μ 1 12) a b then smp (μ 1 11) (μ 2) (μ 3) a b q else 0) (μ 1 12).toNat ∧ ∃ f z, μ2 = ot_uc (ot_uc μ 38 f) 39 z ∧ gChd (μ 1 11) (μ 1 12) (μ 2) (μ 3) f z)) := by
  refine ot_enter (by decide) (Nat.le_of_ble_eq_true rfl) ?_
  intro p e s m args below meth c X hr
  refine tt_iconst X dX6_darkOf_0 ?_
  refine tt_istore_n X dX6_darkOf_1 (by decide) ?_
  refine tt_iconst X dX6_darkOf_2 ?_
  refine tt_istore_n X dX6_darkOf_3 (by decide) ?_
  refine tt_mem (μ' := ot_uc (ot_uc μ 38 (μ 38)) 39 (μ 39)) (by rw [ot_uc_self, ot_uc_self]) ?_
  refine tt_loc [(0, _), (1, _), (2, _), (3, _)] ⟨rfl, rfl, rfl, rfl, trivial⟩ ?_
  refine tt_loop (α := Int × Int × (Int → Int) × (Int → Int)) (fun ((i, y, f, z)) => (μ 1 12 - i).toNat) (fun ((i, y, f, z)) => (0 ≤ i ∧ i ≤ μ 1 12) ∧ y = sumN (fun a => sumN (fun d => (fun a b => if eP k s0 (μ 1 12) (μ 1 12) a b then smp (μ 1 11) (μ 2) (μ 3) a b q else 0) a (a + 1 + d)) ((μ 1 12).toNat - 1 - a.toNat)) i.toNat ∧ gChd (μ 1 11) (μ 1 12) (μ 2) (μ 3) f z) (fun ((i, y, f, z)) => ot_uc (ot_uc μ 38 f) 39 z) (fun ((i, y, f, z)) => [(0, .inr 47), (1, .inl q), (2, .inl y), (3, .inl i)]) (0, 0, μ 38, μ 39) ⟨by show 0 ≤ (0 : Int) ∧ (0 : Int) ≤ μ 1 12; omega, rfl, hCh⟩ ?_
  intro a hIi ihi
  obtain ⟨i, y, f, z⟩ := a
  try dsimp only at hIi ihi ⊢
  replace hIi : (0 ≤ i ∧ i ≤ μ 1 12) ∧ y = sumN (fun a => sumN (fun d => (fun a b => if eP k s0 (μ 1 12) (μ 1 12) a b then smp (μ 1 11) (μ 2) (μ 3) a b q else 0) a (a + 1 + d)) ((μ 1 12).toNat - 1 - a.toNat)) i.toNat ∧ gChd (μ 1 11) (μ 1 12) (μ 2) (μ 3) f z := hIi
  have hi := hIi.1
  refine tt_iload_n X rfl dX6_darkOf_4 ?_
  refine tt_aload_n X rfl dX6_darkOf_5 ?_
  refine tt_getr X fX6_15 (k_47 _ _) (by decide) ⟨nofun, nofun⟩ rfl dX6_darkOf_6 ?_
  refine tt_geti X fX6_33 (k_1 _ _) (by decide) (Or.inl rfl) dX6_darkOf_9 ?_
  try simp (disch := decide) only [ot_rd, ot_rs, ot_rf, ot_ucd, ot_ucs]
  refine tt_icmp_ge X 68 (by first | omega | (simp (disch := decide) only [ot_rd, ot_rs, ot_rf, ot_ucd, ot_ucs]; omega)) dX6_darkOf_12 (by decide) (fun b12 => ?_) (fun b12 => ?_)
  · refine tt_iload_n X rfl dX6_darkOf_68 ?_
    refine tt_iret X ⟨hr.1, hr.2.1⟩ (by decide) (by decide) dX6_darkOf_69 ?_
    refine ⟨rfl, ?_, f, z, rfl, hIi.2.2⟩
    rw [hIi.2.1, show i = μ 1 12 by omega, ← pairS_swap]
  · refine tt_iload_n X rfl dX6_darkOf_15 ?_
    refine tt_iconst X dX6_darkOf_16 ?_
    refine tt_iadd X dX6_darkOf_17 ?_
    refine tt_istore X dX6_darkOf_18 (by decide) ?_
    refine tt_loc [(0, _), (1, _), (2, _), (3, _), (4, _)] ⟨rfl, rfl, rfl, rfl, rfl, trivial⟩ ?_
    refine tt_loop (α := Int × Int × (Int → Int) × (Int → Int)) (fun ((j, y2, f2, z2)) => (μ 1 12 - j).toNat) (fun ((j, y2, f2, z2)) => (i + 1 ≤ j ∧ j ≤ μ 1 12) ∧ y2 = y + sumN (fun d => (fun a b => if eP k s0 (μ 1 12) (μ 1 12) a b then smp (μ 1 11) (μ 2) (μ 3) a b q else 0) i (i + 1 + d)) (j - (i + 1)).toNat ∧ gChd (μ 1 11) (μ 1 12) (μ 2) (μ 3) f2 z2) (fun ((j, y2, f2, z2)) => ot_uc (ot_uc μ 38 f2) 39 z2) (fun ((j, y2, f2, z2)) => [(0, .inr 47), (1, .inl q), (2, .inl y2), (3, .inl i), (4, .inl j)]) (i + 1, y, f, z) ⟨by show i + 1 ≤ i + 1 ∧ i + 1 ≤ μ 1 12; omega, by show y = y + sumN (fun d => (fun a b => if eP k s0 (μ 1 12) (μ 1 12) a b then smp (μ 1 11) (μ 2) (μ 3) a b q else 0) i (i + 1 + d)) (i + 1 - (i + 1)).toNat; rw [show (i + 1 - (i + 1)).toNat = 0 by omega]; show y = y + 0; omega, hIi.2.2⟩ ?_
    intro a hI ih
    obtain ⟨j, y2, f2, z2⟩ := a
    try dsimp only at hI ih ⊢
    replace hI : (i + 1 ≤ j ∧ j ≤ μ 1 12) ∧ y2 = y + sumN (fun d => (fun a b => if eP k s0 (μ 1 12) (μ 1 12) a b then smp (μ 1 11) (μ 2) (μ 3) a b q else 0) i (i + 1 + d)) (j - (i + 1)).toNat ∧ gChd (μ 1 11) (μ 1 12) (μ 2) (μ 3) f2 z2 := hI
    have hj := hI.1
    refine tt_iload X rfl dX6_darkOf_20 ?_
    refine tt_aload_n X rfl dX6_darkOf_22 ?_
    refine tt_getr X fX6_15 (k_47 _ _) (by decide) ⟨nofun, nofun⟩ rfl dX6_darkOf_23 ?_
    refine tt_geti X fX6_33 (k_1 _ _) (by decide) (Or.inl rfl) dX6_darkOf_26 ?_
    try simp (disch := decide) only [ot_rd, ot_rs, ot_rf, ot_ucd, ot_ucs]
    refine tt_icmp_ge X 62 (by first | omega | (simp (disch := decide) only [ot_rd, ot_rs, ot_rf, ot_ucd, ot_ucs]; omega)) dX6_darkOf_29 (by decide) (fun b29 => ?_) (fun b29 => ?_)
    · refine tt_iinc X dX6_darkOf_62 rfl (by decide) ?_
      refine tt_goto X 4 dX6_darkOf_65 (by decide) ?_
      refine tt_loc [(0, _), (1, _), (2, _), (3, _)] ⟨rfl, rfl, rfl, rfl, trivial⟩ ?_
      refine ihi (i + 1, y2, f2, z2) ⟨by show 0 ≤ i + 1 ∧ i + 1 ≤ μ 1 12; omega, ?_, hI.2.2⟩ (by show (μ 1 12 - (i + 1)).toNat < (μ 1 12 - i).toNat; omega)
      show y2 = sumN (fun a => sumN (fun d => (fun a b => if eP k s0 (μ 1 12) (μ 1 12) a b then smp (μ 1 11) (μ 2) (μ 3) a b q else 0) a (a + 1 + d)) ((μ 1 12).toNat - 1 - a.toNat)) (i + 1).toNat
      rw [sumN_toNat _ hi.1, ← hIi.2.1, hI.2.1]
      congr 1
      rw [show (j - (i + 1)).toNat = (μ 1 12).toNat - 1 - i.toNat by omega]
    · refine tt_aload_n X rfl dX6_darkOf_32 ?_
      refine tt_iload_n X rfl dX6_darkOf_33 ?_
      refine tt_iload X rfl dX6_darkOf_34 ?_
      refine tt_vi X rfl mX6_38 (c_hasLine l g ln ext _ _ _ (by omega) (by omega) (by (try simp (disch := decide) only [ot_ucd, ot_ucs, ot_rd, ot_rs, ot_rf, ot_rdf]); exact (hH _ (by omega) (by omega)).1)) (k_47 _ _) ⟨_, rfl, rfl⟩ rfl rfl (Nat.le_of_ble_eq_true rfl) (by decide) (by decide) (by decide) dX6_darkOf_36 (fun z36 L36 μ36 hp => ?_)
      obtain ⟨rfl, e36, hz36⟩ := hp
      replace e36 := e36.symm
      subst e36
      try simp (disch := decide) only [ot_ucd, ot_ucs, ot_rd, ot_rs, ot_rf, ot_rdf] at hz36
      rw [gH_bt (by omega) hH (by omega) (by omega) (by first | omega | exact mod_ne (by omega) (by omega) (by omega))] at hz36
      try simp (disch := decide) only [ot_rd, ot_rs, ot_rf, ot_ucd, ot_ucs] at hz36
      refine tt_if_eq X 56 (by first | omega | (simp (disch := decide) only [ot_rd, ot_rs, ot_rf, ot_ucd, ot_ucs]; omega)) dX6_darkOf_39 (by decide) (fun b39 => ?_) (fun b39 => ?_)
      · refine tt_iinc X dX6_darkOf_56 rfl (by decide) ?_
        refine tt_goto X 20 dX6_darkOf_59 (by decide) ?_
        refine tt_loc [(0, _), (1, _), (2, _), (3, _), (4, _)] ⟨rfl, rfl, rfl, rfl, rfl, trivial⟩ ?_
        have hstep : sumN (fun d => (fun a b => if eP k s0 (μ 1 12) (μ 1 12) a b then smp (μ 1 11) (μ 2) (μ 3) a b q else 0) i (i + 1 + d)) (j + 1 - (i + 1)).toNat = sumN (fun d => (fun a b => if eP k s0 (μ 1 12) (μ 1 12) a b then smp (μ 1 11) (μ 2) (μ 3) a b q else 0) i (i + 1 + d)) (j - (i + 1)).toNat + (fun a b => if eP k s0 (μ 1 12) (μ 1 12) a b then smp (μ 1 11) (μ 2) (μ 3) a b q else 0) i j := by
          rw [show j + 1 - (i + 1) = (j - (i + 1)) + 1 by omega, sumN_toNat _ (by omega)]
          rw [show i + 1 + (j - (i + 1)) = j by omega]
        first
          | (have w1 := ite_nil hz36 (by omega)
             refine ih (j + 1, y2, f2, z2) ⟨by show i + 1 ≤ j + 1 ∧ j + 1 ≤ μ 1 12; omega, ?_, hI.2.2⟩ (by show (μ 1 12 - (j + 1)).toNat < (μ 1 12 - j).toNat; omega)
             show y2 = y + sumN (fun d => (fun a b => if eP k s0 (μ 1 12) (μ 1 12) a b then smp (μ 1 11) (μ 2) (μ 3) a b q else 0) i (i + 1 + d)) (j + 1 - (i + 1)).toNat
             rw [hstep, hI.2.1]
             simp only [w1, Bool.false_eq_true, if_false]
             omega)
          | (have w1 := ite_one hz36 (by omega)
             refine tt_mem (μ' := ot_uc (ot_uc μ 38 f3) 39 z3) (by funext u; by_cases u1 : u = 38 <;> by_cases u2 : u = 39 <;> simp [ot_uc, u1, u2]) ?_
             refine ih (j + 1, y2 + z51, f3, z3) ⟨by show i + 1 ≤ j + 1 ∧ j + 1 ≤ μ 1 12; omega, ?_, hC3⟩ (by show (μ 1 12 - (j + 1)).toNat < (μ 1 12 - j).toNat; omega)
             show y2 + z51 = y + sumN (fun d => (fun a b => if eP k s0 (μ 1 12) (μ 1 12) a b then smp (μ 1 11) (μ 2) (μ 3) a b q else 0) i (i + 1 + d)) (j + 1 - (i + 1)).toNat
             rw [hstep, hI.2.1, hz51]
             simp only [w1, if_true]
             omega)
      · refine tt_iload_n X rfl dX6_darkOf_42 ?_
        refine tt_aload_n X rfl dX6_darkOf_43 ?_
        refine tt_getr X fX6_19 (k_47 _ _) (by decide) ⟨nofun, nofun⟩ rfl dX6_darkOf_44 ?_
        refine tt_iload_n X rfl dX6_darkOf_47 ?_
        refine tt_iload X rfl dX6_darkOf_48 ?_
        refine tt_iload_n X rfl dX6_darkOf_50 ?_
        refine tt_vi X rfl mX6_55 (c_samplesIn l g ln ext _ _ _ _ (by omega) (by simp (disch := decide) only [ot_ucd, ot_ucs, ot_rd, ot_rs, ot_rf, ot_rdf]; exact hG) (by simp (disch := decide) only [ot_ucd, ot_ucs, ot_rd, ot_rs, ot_rf, ot_rdf]; exact hI.2.2) (by simp (disch := decide) only [ot_ucd, ot_ucs, ot_rd, ot_rs, ot_rf, ot_rdf]; omega) (by simp (disch := decide) only [ot_ucd, ot_ucs, ot_rd, ot_rs, ot_rf, ot_rdf]; omega) (by omega)) (k_37 _ _) ⟨_, rfl, rfl⟩ rfl rfl (Nat.le_of_ble_eq_true rfl) (by decide) (by decide) (by decide) dX6_darkOf_51 (fun z51 L51 μ51 hp => ?_)
        obtain ⟨rfl, hz51, f3, z3, rfl, hC3⟩ := hp
        simp (disch := decide) only [ot_ucd, ot_ucs, ot_rd, ot_rs, ot_rf, ot_rdf] at hz51 hC3
        refine tt_iadd X dX6_darkOf_54 ?_
        refine tt_istore_n X dX6_darkOf_55 (by decide) ?_
        refine tt_iinc X dX6_darkOf_56 rfl (by decide) ?_
        refine tt_goto X 20 dX6_darkOf_59 (by decide) ?_
        refine tt_loc [(0, _), (1, _), (2, _), (3, _), (4, _)] ⟨rfl, rfl, rfl, rfl, rfl, trivial⟩ ?_
        have hstep : sumN (fun d => (fun a b => if eP k s0 (μ 1 12) (μ 1 12) a b then smp (μ 1 11) (μ 2) (μ 3) a b q else 0) i (i + 1 + d)) (j + 1 - (i + 1)).toNat = sumN (fun d => (fun a b => if eP k s0 (μ 1 12) (μ 1 12) a b then smp (μ 1 11) (μ 2) (μ 3) a b q else 0) i (i + 1 + d)) (j - (i + 1)).toNat + (fun a b => if eP k s0 (μ 1 12) (μ 1 12) a b then smp (μ 1 11) (μ 2) (μ 3) a b q else 0) i j := by
          rw [show j + 1 - (i + 1) = (j - (i + 1)) + 1 by omega, sumN_toNat _ (by omega)]
          rw [show i + 1 + (j - (i + 1)) = j by omega]
        first
          | (have w1 := ite_nil hz36 (by omega)
             refine ih (j + 1, y2, f2, z2) ⟨by show i + 1 ≤ j + 1 ∧ j + 1 ≤ μ 1 12; omega, ?_, hI.2.2⟩ (by show (μ 1 12 - (j + 1)).toNat < (μ 1 12 - j).toNat; omega)
             show y2 = y + sumN (fun d => (fun a b => if eP k s0 (μ 1 12) (μ 1 12) a b then smp (μ 1 11) (μ 2) (μ 3) a b q else 0) i (i + 1 + d)) (j + 1 - (i + 1)).toNat
             rw [hstep, hI.2.1]
             simp only [w1, Bool.false_eq_true, if_false]
             omega)
          | (have w1 := ite_one hz36 (by omega)
             refine tt_mem (μ' := ot_uc (ot_uc μ 38 f3) 39 z3) (by funext u; by_cases u1 : u = 38 <;> by_cases u2 : u = 39 <;> simp [ot_uc, u1, u2]) ?_
             refine ih (j + 1, y2 + z51, f3, z3) ⟨by show i + 1 ≤ j + 1 ∧ j + 1 ≤ μ 1 12; omega, ?_, hC3⟩ (by show (μ 1 12 - (j + 1)).toNat < (μ 1 12 - j).toNat; omega)
             show y2 + z51 = y + sumN (fun d => (fun a b => if eP k s0 (μ 1 12) (μ 1 12) a b then smp (μ 1 11) (μ 2) (μ 3) a b q else 0) i (i + 1 + d)) (j + 1 - (i + 1)).toNat
             rw [hstep, hI.2.1, hz51]
             simp only [w1, if_true]
             omega)
set_option maxRecDepth 100000 in
set_option maxHeartbeats 1000000 in
theorem c_isRule (l : Launch) (g : ot_G) (ln : Nat) (ext : ot_L) (μ : ot_M) (k s0 : Int) (hk : -2147483648 ≤ k ∧ k ≤ 2147483647) (hs0 : -2147483648 ≤ s0 ∧ s0 ≤ 2147483647)(hN : 0 ≤ μ 1 12 ∧ μ 1 12 ≤ 24) : ot_C l g yX9_isRule cX9_isRule 3 (some .boolean) 0 0 0 [.inr 0, .inl k, .inl s0] (LL ln ext) μ (ot_pi (fun r L2 μ2 => L2 = LL ln ext ∧ μ2 = μ ∧ r = (if (0 < μ 1 12 ∧ 0 ≤ k ∧ k ≤ 99 ∧ 0 ≤ s0 ∧ s0 ≤ 99) then 1 else 0))) := by
  refine ot_enter (by decide) (Nat.le_of_ble_eq_true rfl) ?_
  intro p e s m args below meth c X hr
  refine tt_aload_n X rfl dX9_isRule_0 ?_
  refine tt_getr X fX9_12 (k_0 _ _) (by decide) ⟨nofun, nofun⟩ rfl dX9_isRule_1 ?_
  refine tt_geti X fX9_99 (k_1 _ _) (by decide) (Or.inl rfl) dX9_isRule_4 ?_
  refine tt_if_le X 34 (by omega) dX9_isRule_7 (by decide) (fun b7 => ?_) (fun b7 => ?_)
  · refine tt_iconst X dX9_isRule_34 ?_
    refine tt_zret X ⟨hr.1, hr.2.1⟩ (by omega) (by decide) (by decide) dX9_isRule_35 ?_
    refine ⟨rfl, rfl, ?_⟩
    first | (rw [if_pos (by omega)]; done) | rw [if_neg (by omega)]
  · refine tt_iload_n X rfl dX9_isRule_10 ?_
    refine tt_if_lt X 34 (by omega) dX9_isRule_11 (by decide) (fun b11 => ?_) (fun b11 => ?_)
    · refine tt_iconst X dX9_isRule_34 ?_
      refine tt_zret X ⟨hr.1, hr.2.1⟩ (by omega) (by decide) (by decide) dX9_isRule_35 ?_
      refine ⟨rfl, rfl, ?_⟩
      first | (rw [if_pos (by omega)]; done) | rw [if_neg (by omega)]
    · refine tt_iload_n X rfl dX9_isRule_14 ?_
      refine tt_bipush X (by decide) dX9_isRule_15 ?_
      refine tt_icmp_gt X 34 (by omega) dX9_isRule_17 (by decide) (fun b17 => ?_) (fun b17 => ?_)
      · refine tt_iconst X dX9_isRule_34 ?_
        refine tt_zret X ⟨hr.1, hr.2.1⟩ (by omega) (by decide) (by decide) dX9_isRule_35 ?_
        refine ⟨rfl, rfl, ?_⟩
        first | (rw [if_pos (by omega)]; done) | rw [if_neg (by omega)]
      · refine tt_iload_n X rfl dX9_isRule_20 ?_
        refine tt_if_lt X 34 (by omega) dX9_isRule_21 (by decide) (fun b21 => ?_) (fun b21 => ?_)
        · refine tt_iconst X dX9_isRule_34 ?_
          refine tt_zret X ⟨hr.1, hr.2.1⟩ (by omega) (by decide) (by decide) dX9_isRule_35 ?_
          refine ⟨rfl, rfl, ?_⟩
          first | (rw [if_pos (by omega)]; done) | rw [if_neg (by omega)]
        · refine tt_iload_n X rfl dX9_isRule_24 ?_
          refine tt_bipush X (by decide) dX9_isRule_25 ?_
          refine tt_icmp_gt X 34 (by omega) dX9_isRule_27 (by decide) (fun b27 => ?_) (fun b27 => ?_)
          · refine tt_iconst X dX9_isRule_34 ?_
            refine tt_zret X ⟨hr.1, hr.2.1⟩ (by omega) (by decide) (by decide) dX9_isRule_35 ?_
            refine ⟨rfl, rfl, ?_⟩
            first | (rw [if_pos (by omega)]; done) | rw [if_neg (by omega)]
          · refine tt_iconst X dX9_isRule_30 ?_
            refine tt_goto X 35 dX9_isRule_31 (by decide) ?_
            refine tt_zret X ⟨hr.1, hr.2.1⟩ (by omega) (by decide) (by decide) dX9_isRule_35 ?_
            refine ⟨rfl, rfl, ?_⟩
            first | (rw [if_pos (by omega)]; done) | rw [if_neg (by omega)]
set_option maxRecDepth 100000 in
set_option maxHeartbeats 1000000 in
theorem c_rule (l : Launch) (g : ot_G) (ln : Nat) (ext : ot_L) (μ : ot_M) (k s0 w : Int) (hk : -2147483648 ≤ k ∧ k ≤ 2147483647) (hs0 : -2147483648 ≤ s0 ∧ s0 ≤ 2147483647) (hw : -2147483648 ≤ w ∧ w ≤ 2147483647)(hN : 0 ≤ μ 1 12 ∧ μ 1 12 ≤ 24) : ot_C l g yX9_rule cX9_rule 4 (some .int) 4 0 0 [.inr 0, .inl k, .inl s0, .inl w] (LL ln ext) μ (ot_pi (fun r L2 μ2 => L2 = LL ln ext ∧ (∃ F y, μ2 = ot_up (ot_uc μ 48 F) 47 3 y) ∧ (((0 < μ 1 12 ∧ 0 ≤ k ∧ k ≤ 99 ∧ 0 ≤ s0 ∧ s0 ≤ 99) ∧ w = 0 ∧ r = pairS (fun a b => if eP k s0 (μ 1 12) (μ 1 12) a b then 1 else 0) (μ 1 12).toNat) ∨ ((0 < μ 1 12 ∧ 0 ≤ k ∧ k ≤ 99 ∧ 0 ≤ s0 ∧ s0 ≤ 99) ∧ w = 1 ∧ lstT k s0 (μ 1 12) r) ∨ (¬ ((0 < μ 1 12 ∧ 0 ≤ k ∧ k ≤ 99 ∧ 0 ≤ s0 ∧ s0 ≤ 99) ∧ 0 ≤ w ∧ w ≤ 1) ∧ r = -1)))) := by
  refine ot_enter (by decide) (Nat.le_of_ble_eq_true rfl) ?_
  intro p e s m args below meth c X hr
  refine tt_aload_n X rfl dX9_rule_0 ?_
  refine tt_iload_n X rfl dX9_rule_1 ?_
  refine tt_iload_n X rfl dX9_rule_2 ?_
  refine tt_vi X rfl mX9_282 (c_isRule l g ln ext _ _ _ (by omega) (by omega) (by omega)) (k_0 _ _) ⟨_, rfl, rfl⟩ rfl rfl (Nat.le_of_ble_eq_true rfl) (by decide) (by decide) (by decide) dX9_rule_3 (fun z3 L3 μ3 hp => ?_)
  obtain ⟨rfl, e3, hz3⟩ := hp
  replace e3 := e3.symm
  subst e3
  refine tt_if_eq X 18 (by first | omega | (simp (disch := decide) only [ot_rd, ot_rs, ot_rf, ot_ucd, ot_ucs]; omega)) dX9_rule_6 (by decide) (fun b6 => ?_) (fun b6 => ?_)
  · refine tt_iconst X dX9_rule_18 ?_
    refine tt_iret X ⟨hr.1, hr.2.1⟩ (by decide) (by decide) dX9_rule_19 ?_
    exact ⟨rfl, ⟨μ 48, μ 47 3, (by funext u v; by_cases u1 : u = 47 <;> by_cases u2 : u = 48 <;> simp [ot_up, ot_uc, u1, u2] <;> intros <;> simp_all)⟩, Or.inr (Or.inr ⟨by omega, rfl⟩)⟩
  · refine tt_iload_n X rfl dX9_rule_9 ?_
    refine tt_if_lt X 18 (by first | omega | (simp (disch := decide) only [ot_rd, ot_rs, ot_rf, ot_ucd, ot_ucs]; omega)) dX9_rule_10 (by decide) (fun b10 => ?_) (fun b10 => ?_)
    · refine tt_iconst X dX9_rule_18 ?_
      refine tt_iret X ⟨hr.1, hr.2.1⟩ (by decide) (by decide) dX9_rule_19 ?_
      exact ⟨rfl, ⟨μ 48, μ 47 3, (by funext u v; by_cases u1 : u = 47 <;> by_cases u2 : u = 48 <;> simp [ot_up, ot_uc, u1, u2] <;> intros <;> simp_all)⟩, Or.inr (Or.inr ⟨by omega, rfl⟩)⟩
    · refine tt_iload_n X rfl dX9_rule_13 ?_
      refine tt_iconst X dX9_rule_14 ?_
      refine tt_icmp_le X 20 (by first | omega | (simp (disch := decide) only [ot_rd, ot_rs, ot_rf, ot_ucd, ot_ucs]; omega)) dX9_rule_15 (by decide) (fun b15 => ?_) (fun b15 => ?_)
      · refine tt_aload_n X rfl dX9_rule_20 ?_
        refine tt_getr X fX9_60 (k_0 _ _) (by decide) ⟨nofun, nofun⟩ rfl dX9_rule_21 ?_
        refine tt_iload_n X rfl dX9_rule_24 ?_
        refine tt_iload_n X rfl dX9_rule_25 ?_
        refine tt_vv X rfl mX9_285 (c_draw l g ln ext _ k s0 (by omega) (by omega) (by omega)) (k_47 _ _) ⟨_, rfl, rfl⟩ rfl rfl (Nat.le_of_ble_eq_true rfl) (by decide) (by decide) (by decide) dX9_rule_26 (fun L26 μ26 hp => ?_)
        obtain ⟨rfl, F0, hH, rfl⟩ := hp
        refine tt_iload_n X rfl dX9_rule_29 ?_
        refine tt_if_ne X 43 (by first | omega | (simp (disch := decide) only [ot_rd, ot_rs, ot_rf, ot_ucd, ot_ucs]; omega)) dX9_rule_30 (by decide) (fun b30 => ?_) (fun b30 => ?_)
        · refine tt_aload_n X rfl dX9_rule_43 ?_
          refine tt_getr X fX9_60 (k_0 _ _) (by decide) ⟨nofun, nofun⟩ rfl dX9_rule_44 ?_
          refine tt_vi X rfl mX9_289 (c_leastTurn l g ln ext _ k s0 (by simp (disch := decide) only [ot_ucd, ot_ucs, ot_rd, ot_rs, ot_rf, ot_rdf]; omega) (by simp (disch := decide) only [ot_ucd, ot_ucs, ot_rd, ot_rs, ot_rf, ot_rdf]; exact hH)) (k_47 _ _) ⟨_, rfl, rfl⟩ rfl rfl (Nat.le_of_ble_eq_true rfl) (by decide) (by decide) (by decide) dX9_rule_47 (fun z47 L47 μ47 hp => ?_)
          obtain ⟨rfl, e47, hz47⟩ := hp
          replace e47 := e47.symm
          subst e47
          simp (disch := decide) only [ot_ucd, ot_ucs, ot_rd, ot_rs, ot_rf, ot_rdf] at hz47
          refine tt_iret X ⟨hr.1, hr.2.1⟩ (by decide) (by decide) dX9_rule_50 ?_
          first | exact ⟨rfl, ⟨_, _, rfl⟩, Or.inl ⟨by omega, by omega, rfl⟩⟩ | exact ⟨rfl, ⟨_, _, rfl⟩, Or.inr (Or.inl ⟨by omega, by omega, hz47⟩)⟩
        · refine tt_aload_n X rfl dX9_rule_33 ?_
          refine tt_getr X fX9_60 (k_0 _ _) (by decide) ⟨nofun, nofun⟩ rfl dX9_rule_34 ?_
          refine tt_geti X fX9_288 (k_47 _ _) (by decide) (Or.inl rfl) dX9_rule_37 ?_
          try simp (disch := decide) only [ot_rd, ot_rs, ot_rf, ot_ucd, ot_ucs]
          refine tt_goto X 50 dX9_rule_40 (by decide) ?_
          refine tt_iret X ⟨hr.1, hr.2.1⟩ (by decide) (by decide) dX9_rule_50 ?_
          first | exact ⟨rfl, ⟨_, _, rfl⟩, Or.inl ⟨by omega, by omega, rfl⟩⟩ | exact ⟨rfl, ⟨_, _, rfl⟩, Or.inr (Or.inl ⟨by omega, by omega, hz47⟩)⟩
      · refine tt_iconst X dX9_rule_18 ?_
        refine tt_iret X ⟨hr.1, hr.2.1⟩ (by decide) (by decide) dX9_rule_19 ?_
        exact ⟨rfl, ⟨μ 48, μ 47 3, (by funext u v; by_cases u1 : u = 47 <;> by_cases u2 : u = 48 <;> simp [ot_up, ot_uc, u1, u2] <;> intros <;> simp_all)⟩, Or.inr (Or.inr ⟨by omega, rfl⟩)⟩
set_option maxRecDepth 100000 in
set_option maxHeartbeats 1000000 in
theorem c_drawn (l : Launch) (g : ot_G) (ln : Nat) (ext : ot_L) (μ : ot_M) (k s0 x y : Int) (hk : -2147483648 ≤ k ∧ k ≤ 2147483647) (hs0 : -2147483648 ≤ s0 ∧ s0 ≤ 2147483647) (hx : -2147483648 ≤ x ∧ x ≤ 2147483647) (hy : -2147483648 ≤ y ∧ y ≤ 2147483647)(hN : 0 ≤ μ 1 12 ∧ μ 1 12 ≤ 24) (hG : gPin (μ 1 11) (μ 1 12) (μ 2) (μ 3)) (hCh : gChd (μ 1 11) (μ 1 12) (μ 2) (μ 3) (μ 38) (μ 39))  : ot_C l g yX9_drawn cX9_drawn 6 (some .int) 6 0 0 [.inr 0, .inl k, .inl s0, .inl x, .inl y] (LL ln ext) μ (ot_pi (fun r L2 μ2 => L2 = LL ln ext ∧ (∃ F y f z, μ2 = ot_uc (ot_uc (ot_up (ot_uc μ 48 F) 47 3 y) 38 f) 39 z ∧ gChd (μ 1 11) (μ 1 12) (μ 2) (μ 3) f z) ∧ (((0 < μ 1 12 ∧ 0 ≤ k ∧ k ≤ 99 ∧ 0 ≤ s0 ∧ s0 ≤ 99) ∧ (0 ≤ x ∧ x < μ 1 11 ∧ 0 ≤ y ∧ y < μ 1 11) ∧ r = pairS (fun a b => if eP k s0 (μ 1 12) (μ 1 12) a b then smp (μ 1 11) (μ 2) (μ 3) a b (x + 8 * y) else 0) (μ 1 12).toNat) ∨ (¬ ((0 < μ 1 12 ∧ 0 ≤ k ∧ k ≤ 99 ∧ 0 ≤ s0 ∧ s0 ≤ 99) ∧ (0 ≤ x ∧ x < μ 1 11 ∧ 0 ≤ y ∧ y < μ 1 11)) ∧ r = -1)))) := by
  refine ot_enter (by decide) (Nat.le_of_ble_eq_true rfl) ?_
  intro p e s m args below meth c X hr
  have hS := hG.1
  refine tt_aload_n X rfl dX9_drawn_0 ?_
  refine tt_getr X fX9_12 (k_0 _ _) (by decide) ⟨nofun, nofun⟩ rfl dX9_drawn_1 ?_
  refine tt_iload_n X rfl dX9_drawn_4 ?_
  refine tt_iload X rfl dX9_drawn_5 ?_
  refine tt_vi X rfl mX9_108 (c_squareAt l g ln ext _ _ _ (by first | omega | (simp (disch := decide) only [ot_rd, ot_rs, ot_rf, ot_ucd, ot_ucs]; omega)) (by first | omega | (simp (disch := decide) only [ot_rd, ot_rs, ot_rf, ot_ucd, ot_ucs]; omega)) (by first | omega | (simp (disch := decide) only [ot_rd, ot_rs, ot_rf, ot_ucd, ot_ucs]; omega))) (k_1 _ _) ⟨_, rfl, rfl⟩ rfl rfl (Nat.le_of_ble_eq_true rfl) (by decide) (by decide) (by decide) dX9_drawn_7 (fun z7 L7 μ7 hp => ?_)
  obtain ⟨rfl, e7, hz7⟩ := hp
  replace e7 := e7.symm
  subst e7
  refine tt_istore X dX9_drawn_10 (by decide) ?_
  refine tt_aload_n X rfl dX9_drawn_12 ?_
  refine tt_iload_n X rfl dX9_drawn_13 ?_
  refine tt_iload_n X rfl dX9_drawn_14 ?_
  refine tt_vi X rfl mX9_282 (c_isRule l g ln ext _ _ _ (by omega) (by omega) (by omega)) (k_0 _ _) ⟨_, rfl, rfl⟩ rfl rfl (Nat.le_of_ble_eq_true rfl) (by decide) (by decide) (by decide) dX9_drawn_15 (fun z15 L15 μ15 hp => ?_)
  obtain ⟨rfl, e15, hz15⟩ := hp
  replace e15 := e15.symm
  subst e15
  refine tt_if_eq X 27 (by first | omega | (simp (disch := decide) only [ot_rd, ot_rs, ot_rf, ot_ucd, ot_ucs]; omega)) dX9_drawn_18 (by decide) (fun b18 => ?_) (fun b18 => ?_)
  · refine tt_iconst X dX9_drawn_27 ?_
    refine tt_iret X ⟨hr.1, hr.2.1⟩ (by decide) (by decide) dX9_drawn_28 ?_
    refine ⟨rfl, ⟨μ 48, μ 47 3, μ 38, μ 39, ?_, hCh⟩, Or.inr ⟨by omega, rfl⟩⟩
    funext u v; by_cases u1 : u = 47 <;> by_cases u2 : u = 48 <;> by_cases u3 : u = 38 <;> by_cases u4 : u = 39 <;> simp [ot_up, ot_uc, u1, u2, u3, u4] <;> intros <;> simp_all
  · refine tt_iload X rfl dX9_drawn_21 ?_
    refine tt_iconst X dX9_drawn_23 ?_
    refine tt_icmp_ne X 29 (by first | omega | (simp (disch := decide) only [ot_rd, ot_rs, ot_rf, ot_ucd, ot_ucs]; omega)) dX9_drawn_24 (by decide) (fun b24 => ?_) (fun b24 => ?_)
    · refine tt_aload_n X rfl dX9_drawn_29 ?_
      refine tt_getr X fX9_60 (k_0 _ _) (by decide) ⟨nofun, nofun⟩ rfl dX9_drawn_30 ?_
      refine tt_iload_n X rfl dX9_drawn_33 ?_
      refine tt_iload_n X rfl dX9_drawn_34 ?_
      refine tt_vv X rfl mX9_285 (c_draw l g ln ext _ k s0 (by omega) (by omega) (by omega)) (k_47 _ _) ⟨_, rfl, rfl⟩ rfl rfl (Nat.le_of_ble_eq_true rfl) (by decide) (by decide) (by decide) dX9_drawn_35 (fun L35 μ35 hp => ?_)
      obtain ⟨rfl, F0, hH, rfl⟩ := hp
      refine tt_aload_n X rfl dX9_drawn_38 ?_
      refine tt_getr X fX9_60 (k_0 _ _) (by decide) ⟨nofun, nofun⟩ rfl dX9_drawn_39 ?_
      refine tt_iload X rfl dX9_drawn_42 ?_
      refine tt_vi X rfl mX9_292 (c_darkOf l g ln ext _ k s0 _ (by omega) (by simp (disch := decide) only [ot_ucd, ot_ucs, ot_rd, ot_rs, ot_rf, ot_rdf]; omega) (by simp (disch := decide) only [ot_ucd, ot_ucs, ot_rd, ot_rs, ot_rf, ot_rdf]; exact hH) (by simp (disch := decide) only [ot_ucd, ot_ucs, ot_rd, ot_rs, ot_rf, ot_rdf]; exact hG) (by simp (disch := decide) only [ot_ucd, ot_ucs, ot_rd, ot_rs, ot_rf, ot_rdf]; exact hCh)) (k_47 _ _) ⟨_, rfl, rfl⟩ rfl rfl (Nat.le_of_ble_eq_true rfl) (by decide) (by decide) (by decide) dX9_drawn_44 (fun z44 L44 μ44 hp => ?_)
      obtain ⟨rfl, hz44, f3, z3, rfl, hC3⟩ := hp
      simp (disch := decide) only [ot_ucd, ot_ucs, ot_rd, ot_rs, ot_rf, ot_rdf] at hz44 hC3
      refine tt_iret X ⟨hr.1, hr.2.1⟩ (by decide) (by decide) dX9_drawn_47 ?_
      have e7 : z7 = x + 8 * y := by rw [hz7, if_pos (by omega)]
      refine ⟨rfl, ⟨_, _, _, _, rfl, hC3⟩, Or.inl ⟨by omega, by omega, ?_⟩⟩
      rw [hz44, e7]
    · refine tt_iconst X dX9_drawn_27 ?_
      refine tt_iret X ⟨hr.1, hr.2.1⟩ (by decide) (by decide) dX9_drawn_28 ?_
      refine ⟨rfl, ⟨μ 48, μ 47 3, μ 38, μ 39, ?_, hCh⟩, Or.inr ⟨by omega, rfl⟩⟩
      funext u v; by_cases u1 : u = 47 <;> by_cases u2 : u = 48 <;> by_cases u3 : u = 38 <;> by_cases u4 : u = 39 <;> simp [ot_up, ot_uc, u1, u2, u3, u4] <;> intros <;> simp_all

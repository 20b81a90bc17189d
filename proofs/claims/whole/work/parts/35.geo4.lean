/-- FAR as the reference adds it: over the board's squares; its weights are one less -/
def farM (S : Int) (w want dark : Int → Int) (p : Int) : Int := sumN (fun k => if k % 8 < S ∧ k / 8 < S then (w k + 1) * ((want (64 * p + k) - dark k).natAbs : Int) else 0) 64
def gFar (want dark : Int → Int) (p : Int) : Prop := ∀ k, 0 ≤ k → k < 64 → (0 ≤ want (64 * p + k) ∧ want (64 * p + k) ≤ 999) ∧ (-1000000000 ≤ dark k ∧ dark k ≤ 1000000000)
/-- how often a line is there -/
def usd (cnt row : Int → Int) (a b : Int) : Int := sumN (fun t => sumN (fun i => if (row (120 * t + i) = a ∧ row (120 * t + i + 1) = b) ∨ (row (120 * t + i) = b ∧ row (120 * t + i + 1) = a) then 1 else 0) (cnt t - 1).toNat) 3
/-- LENGTH of all windings -/
def lenA (px py cnt row : Int → Int) : Int := sumN (fun t => sumN (fun i => lenP (px (row (120 * t + i))) (py (row (120 * t + i))) (px (row (120 * t + i + 1))) (py (row (120 * t + i + 1)))) (cnt t - 1).toNat) 3
set_option maxRecDepth 100000 in
set_option maxHeartbeats 1000000 in
theorem q_farOf (l : Launch) (g : ot_G) (ln : Nat) (ext : ot_L) (μ : ot_M) (q : Int) (hq : 0 ≤ q ∧ q < 4) (hS : 2 ≤ μ 60 1 ∧ μ 60 1 ≤ 8) (hF : gFar (μ 66) (μ 83) q) : ot_C l g yX10_farOf cX10_farOf 4 (some .int) 1 0 0 [.inr 60, .inl q] (LL ln ext) μ (ot_pi (fun r L2 μ2 => L2 = LL ln ext ∧ μ2 = μ ∧ r = farM (μ 60 1) (μ 67) (μ 66) (μ 83) q)) := by
  refine ot_enter (by decide) (Nat.le_of_ble_eq_true rfl) ?_
  intro p e s m args below meth c X hr
  refine tt_iconst X dX10_farOf_0 ?_
  refine tt_istore_n X dX10_farOf_1 (by decide) ?_
  refine tt_iconst X dX10_farOf_2 ?_
  refine tt_istore_n X dX10_farOf_3 (by decide) ?_
  refine tt_loc [(0, _), (1, _), (2, _), (3, _)] ⟨rfl, rfl, rfl, rfl, trivial⟩ ?_
  refine tt_loop (α := Int × Int) (fun ((k, y)) => (64 - k).toNat) (fun ((k, y)) => (0 ≤ k ∧ k ≤ 64) ∧ y = sumN (fun k => if k % 8 < μ 60 1 ∧ k / 8 < μ 60 1 then (μ 67 k + 1) * ((μ 66 (64 * q + k) - μ 83 k).natAbs : Int) else 0) k.toNat) (fun ((k, y)) => μ) (fun ((k, y)) => [(0, .inr 60), (1, .inl q), (2, .inl y), (3, .inl k)]) (0, 0) ⟨by show 0 ≤ (0 : Int) ∧ (0 : Int) ≤ 64; omega, rfl⟩ ?_
  intro a hI ih
  obtain ⟨k, y⟩ := a
  try dsimp only at hI ih ⊢
  replace hI : (0 ≤ k ∧ k ≤ 64) ∧ y = sumN (fun k => if k % 8 < μ 60 1 ∧ k / 8 < μ 60 1 then (μ 67 k + 1) * ((μ 66 (64 * q + k) - μ 83 k).natAbs : Int) else 0) k.toNat := hI
  have hk := hI.1
  refine tt_iload_n X rfl dX10_farOf_4 ?_
  refine tt_bipush X (by decide) dX10_farOf_5 ?_
  refine tt_icmp_ge X 72 (by first | omega | (simp (disch := decide) only [ot_rd, ot_rs, ot_rf, ot_ucd, ot_ucs]; omega)) dX10_farOf_7 (by decide) (fun b7 => ?_) (fun b7 => ?_)
  · refine tt_iload_n X rfl dX10_farOf_72 ?_
    refine tt_iret X ⟨hr.1, hr.2.1⟩ (by decide) (by decide) dX10_farOf_73 ?_
    refine ⟨rfl, rfl, ?_⟩
    rw [hI.2, show k = 64 by omega]
    rfl
  · refine tt_iload_n X rfl dX10_farOf_10 ?_
    refine tt_bipush X (by decide) dX10_farOf_11 ?_
    refine tt_irem X (by omega) dX10_farOf_13 ?_
    refine tt_top (bo_rem (by omega) (by omega)) ?_
    refine tt_aload_n X rfl dX10_farOf_14 ?_
    refine tt_geti X fX10_7 (k_60 _ _) (by decide) (Or.inl rfl) dX10_farOf_15 ?_
    try simp (disch := decide) only [ot_rd, ot_rs, ot_rf, ot_ucd, ot_ucs]
    refine tt_icmp_ge X 66 (by first | omega | (simp (disch := decide) only [ot_rd, ot_rs, ot_rf, ot_ucd, ot_ucs]; omega)) dX10_farOf_18 (by decide) (fun b18 => ?_) (fun b18 => ?_)
    · refine tt_iinc X dX10_farOf_66 rfl (by decide) ?_
      refine tt_goto X 4 dX10_farOf_69 (by decide) ?_
      refine tt_loc [(0, _), (1, _), (2, _), (3, _)] ⟨rfl, rfl, rfl, rfl, trivial⟩ ?_
      refine ih (k + 1, _) ⟨by show 0 ≤ k + 1 ∧ k + 1 ≤ 64; omega, ?_⟩ (by show (64 - (k + 1)).toNat < (64 - k).toNat; omega)
      show _ = sumN _ (k + 1).toNat
      rw [sumN_toNat _ hI.1.1, ← hI.2]
      first | (rw [if_neg (by omega)]; omega) | (rw [if_pos (by omega), hz60])
    · refine tt_iload_n X rfl dX10_farOf_21 ?_
      refine tt_bipush X (by decide) dX10_farOf_22 ?_
      refine tt_idiv X (by omega) dX10_farOf_24 ?_
      refine tt_top (bo_div (by omega) (by omega)) ?_
      refine tt_aload_n X rfl dX10_farOf_25 ?_
      refine tt_geti X fX10_7 (k_60 _ _) (by decide) (Or.inl rfl) dX10_farOf_26 ?_
      try simp (disch := decide) only [ot_rd, ot_rs, ot_rf, ot_ucd, ot_ucs]
      refine tt_icmp_ge X 66 (by first | omega | (simp (disch := decide) only [ot_rd, ot_rs, ot_rf, ot_ucd, ot_ucs]; omega)) dX10_farOf_29 (by decide) (fun b29 => ?_) (fun b29 => ?_)
      · refine tt_iinc X dX10_farOf_66 rfl (by decide) ?_
        refine tt_goto X 4 dX10_farOf_69 (by decide) ?_
        refine tt_loc [(0, _), (1, _), (2, _), (3, _)] ⟨rfl, rfl, rfl, rfl, trivial⟩ ?_
        refine ih (k + 1, _) ⟨by show 0 ≤ k + 1 ∧ k + 1 ≤ 64; omega, ?_⟩ (by show (64 - (k + 1)).toNat < (64 - k).toNat; omega)
        show _ = sumN _ (k + 1).toNat
        rw [sumN_toNat _ hI.1.1, ← hI.2]
        first | (rw [if_neg (by omega)]; omega) | (rw [if_pos (by omega), hz60])
      · have hFk := hF k (by omega) (by omega)
        refine tt_iload_n X rfl dX10_farOf_32 ?_
        refine tt_aload_n X rfl dX10_farOf_33 ?_
        refine tt_getr X fX10_32 (k_60 _ _) (by decide) ⟨nofun, nofun⟩ rfl dX10_farOf_34 ?_
        refine tt_iload_n X rfl dX10_farOf_37 ?_
        refine tt_iaload X (k_67 _ _) (by first | omega | (simp (disch := decide) only [ot_rd, ot_rs, ot_rf, ot_ucd, ot_ucs]; omega)) dX10_farOf_38 ?_
        try simp (disch := decide) only [ot_rd, ot_rs, ot_rf, ot_ucd, ot_ucs]
        refine tt_iconst X dX10_farOf_39 ?_
        refine tt_iadd X dX10_farOf_40 ?_
        refine tt_aload_n X rfl dX10_farOf_41 ?_
        refine tt_aload_n X rfl dX10_farOf_42 ?_
        refine tt_getr X fX10_29 (k_60 _ _) (by decide) ⟨nofun, nofun⟩ rfl dX10_farOf_43 ?_
        refine tt_bipush X (by decide) dX10_farOf_46 ?_
        refine tt_iload_n X rfl dX10_farOf_48 ?_
        refine tt_imul X dX10_farOf_49 ?_
        refine tt_iload_n X rfl dX10_farOf_50 ?_
        refine tt_iadd X dX10_farOf_51 ?_
        refine tt_iaload X (k_66 _ _) (by first | omega | (simp (disch := decide) only [ot_rd, ot_rs, ot_rf, ot_ucd, ot_ucs]; omega)) dX10_farOf_52 ?_
        try simp (disch := decide) only [ot_rd, ot_rs, ot_rf, ot_ucd, ot_ucs]
        refine tt_aload_n X rfl dX10_farOf_53 ?_
        refine tt_getr X fX10_83 (k_60 _ _) (by decide) ⟨nofun, nofun⟩ rfl dX10_farOf_54 ?_
        refine tt_iload_n X rfl dX10_farOf_57 ?_
        refine tt_iaload X (k_83 _ _) (by first | omega | (simp (disch := decide) only [ot_rd, ot_rs, ot_rf, ot_ucd, ot_ucs]; omega)) dX10_farOf_58 ?_
        try simp (disch := decide) only [ot_rd, ot_rs, ot_rf, ot_ucd, ot_ucs]
        refine tt_isub X dX10_farOf_59 ?_
        refine tt_vi X rfl mX10_227 (q_without l g ln ext _ _ (by first | omega | (simp (disch := decide) only [ot_rd, ot_rs, ot_rf, ot_ucd, ot_ucs]; omega))) (k_60 _ _) ⟨_, rfl, rfl⟩ rfl rfl (Nat.le_of_ble_eq_true rfl) (by decide) (by decide) (by decide) dX10_farOf_60 (fun z60 L60 μ60 hp => ?_)
        obtain ⟨rfl, e60, hz60⟩ := hp
        replace e60 := e60.symm
        subst e60
        try simp (disch := decide) only [ot_rd, ot_rs, ot_rf, ot_ucd, ot_ucs] at hz60
        refine tt_imul X dX10_farOf_63 ?_
        refine tt_iadd X dX10_farOf_64 ?_
        refine tt_istore_n X dX10_farOf_65 (by decide) ?_
        refine tt_iinc X dX10_farOf_66 rfl (by decide) ?_
        refine tt_goto X 4 dX10_farOf_69 (by decide) ?_
        refine tt_loc [(0, _), (1, _), (2, _), (3, _)] ⟨rfl, rfl, rfl, rfl, trivial⟩ ?_
        refine ih (k + 1, _) ⟨by show 0 ≤ k + 1 ∧ k + 1 ≤ 64; omega, ?_⟩ (by show (64 - (k + 1)).toNat < (64 - k).toNat; omega)
        show _ = sumN _ (k + 1).toNat
        rw [sumN_toNat _ hI.1.1, ← hI.2]
        first | (rw [if_neg (by omega)]; omega) | (rw [if_pos (by omega), hz60])
set_option maxRecDepth 100000 in
set_option maxHeartbeats 1000000 in
theorem q_usedOf (l : Launch) (g : ot_G) (ln : Nat) (ext : ot_L) (μ : ot_M) (a b : Int) (ha : 0 ≤ a ∧ a < 24) (hb : 0 ≤ b ∧ b < 24) (hN : μ 60 2 ≤ 24) (hW : gWnd (μ 60 2) (μ 64) (μ 65))  : ot_C l g yX10_usedOf cX10_usedOf 8 (some .int) 1 0 0 [.inr 60, .inl a, .inl b] (LL ln ext) μ (ot_pi (fun r L2 μ2 => L2 = LL ln ext ∧ μ2 = μ ∧ r = usd (μ 64) (μ 65) a b)) := by
  refine ot_enter (by decide) (Nat.le_of_ble_eq_true rfl) ?_
  intro p e s m args below meth c X hr
  refine tt_iconst X dX10_usedOf_0 ?_
  refine tt_istore_n X dX10_usedOf_1 (by decide) ?_
  refine tt_iconst X dX10_usedOf_2 ?_
  refine tt_istore X dX10_usedOf_3 (by decide) ?_
  refine tt_loc [(0, _), (1, _), (2, _), (3, _), (4, _)] ⟨rfl, rfl, rfl, rfl, rfl, trivial⟩ ?_
  refine tt_loop (α := Int × Int) (fun ((t, y)) => (3 - t).toNat) (fun ((t, y)) => (0 ≤ t ∧ t ≤ 3) ∧ y = sumN (fun t => sumN (fun i => if (μ 65 (120 * t + i) = a ∧ μ 65 (120 * t + i + 1) = b) ∨ (μ 65 (120 * t + i) = b ∧ μ 65 (120 * t + i + 1) = a) then 1 else 0) (μ 64 t - 1).toNat) t.toNat) (fun ((t, y)) => μ) (fun ((t, y)) => [(0, .inr 60), (1, .inl a), (2, .inl b), (3, .inl y), (4, .inl t)]) (0, 0) ⟨by show 0 ≤ (0 : Int) ∧ (0 : Int) ≤ 3; omega, rfl⟩ ?_
  intro a hIt iht
  obtain ⟨t, y⟩ := a
  try dsimp only at hIt iht ⊢
  replace hIt : (0 ≤ t ∧ t ≤ 3) ∧ y = sumN (fun t => sumN (fun i => if (μ 65 (120 * t + i) = a ∧ μ 65 (120 * t + i + 1) = b) ∨ (μ 65 (120 * t + i) = b ∧ μ 65 (120 * t + i + 1) = a) then 1 else 0) (μ 64 t - 1).toNat) t.toNat := hIt
  have ht := hIt.1
  refine tt_iload X rfl dX10_usedOf_5 ?_
  refine tt_iconst X dX10_usedOf_7 ?_
  refine tt_icmp_ge X 90 (by first | omega | (simp (disch := decide) only [ot_rd, ot_rs, ot_rf, ot_ucd, ot_ucs]; omega)) dX10_usedOf_8 (by decide) (fun b8 => ?_) (fun b8 => ?_)
  · refine tt_iload_n X rfl dX10_usedOf_90 ?_
    refine tt_iret X ⟨hr.1, hr.2.1⟩ (by decide) (by decide) dX10_usedOf_91 ?_
    refine ⟨rfl, rfl, ?_⟩
    rw [hIt.2, show t = 3 by omega]
    rfl
  · refine tt_iconst X dX10_usedOf_11 ?_
    refine tt_istore X dX10_usedOf_12 (by decide) ?_
    have hWt := hW t (by omega) (by omega)
    refine tt_loc [(0, _), (1, _), (2, _), (3, _), (4, _), (5, _)] ⟨rfl, rfl, rfl, rfl, rfl, rfl, trivial⟩ ?_
    refine tt_loop (α := Int × Int) (fun ((i, x)) => (μ 64 t - i).toNat) (fun ((i, x)) => (0 ≤ i ∧ (i + 1 ≤ μ 64 t ∨ (i = 0 ∧ μ 64 t = 0))) ∧ x = y + sumN (fun i => if (μ 65 (120 * t + i) = a ∧ μ 65 (120 * t + i + 1) = b) ∨ (μ 65 (120 * t + i) = b ∧ μ 65 (120 * t + i + 1) = a) then 1 else 0) i.toNat) (fun ((i, x)) => μ) (fun ((i, x)) => [(0, .inr 60), (1, .inl a), (2, .inl b), (3, .inl x), (4, .inl t), (5, .inl i)]) (0, y) ⟨by show 0 ≤ (0 : Int) ∧ ((0 : Int) + 1 ≤ μ 64 t ∨ ((0 : Int) = 0 ∧ μ 64 t = 0)); omega, (Int.add_zero y).symm⟩ ?_
    intro a hI ih
    obtain ⟨i, x⟩ := a
    try dsimp only at hI ih ⊢
    replace hI : (0 ≤ i ∧ (i + 1 ≤ μ 64 t ∨ (i = 0 ∧ μ 64 t = 0))) ∧ x = y + sumN (fun i => if (μ 65 (120 * t + i) = a ∧ μ 65 (120 * t + i + 1) = b) ∨ (μ 65 (120 * t + i) = b ∧ μ 65 (120 * t + i + 1) = a) then 1 else 0) i.toNat := hI
    have hi := hI.1
    refine tt_iload X rfl dX10_usedOf_14 ?_
    refine tt_iconst X dX10_usedOf_16 ?_
    refine tt_iadd X dX10_usedOf_17 ?_
    refine tt_aload_n X rfl dX10_usedOf_18 ?_
    refine tt_getr X fX10_23 (k_60 _ _) (by decide) ⟨nofun, nofun⟩ rfl dX10_usedOf_19 ?_
    refine tt_iload X rfl dX10_usedOf_22 ?_
    refine tt_iaload X (k_64 _ _) (by first | omega | (simp (disch := decide) only [ot_rd, ot_rs, ot_rf, ot_ucd, ot_ucs]; omega)) dX10_usedOf_24 ?_
    try simp (disch := decide) only [ot_rd, ot_rs, ot_rf, ot_ucd, ot_ucs]
    refine tt_icmp_ge X 84 (by first | omega | (simp (disch := decide) only [ot_rd, ot_rs, ot_rf, ot_ucd, ot_ucs]; omega)) dX10_usedOf_25 (by decide) (fun b25 => ?_) (fun b25 => ?_)
    · refine tt_iinc X dX10_usedOf_84 rfl (by decide) ?_
      refine tt_goto X 5 dX10_usedOf_87 (by decide) ?_
      refine tt_loc [(0, _), (1, _), (2, _), (3, _), (4, _)] ⟨rfl, rfl, rfl, rfl, rfl, trivial⟩ ?_
      refine iht (t + 1, x) ⟨by show 0 ≤ t + 1 ∧ t + 1 ≤ 3; omega, ?_⟩ (by show (3 - (t + 1)).toNat < (3 - t).toNat; omega)
      show x = sumN _ (t + 1).toNat
      rw [sumN_toNat _ hIt.1.1, ← hIt.2, hI.2]
      rcases (show i = μ 64 t - 1 ∨ (μ 64 t = 0 ∧ i = 0) by omega) with q | q
      · rw [q]
      · rw [q.1, q.2]; rfl
    · have hw1 := hWt.2.1 i (by omega) (by omega)
      have hw2 := hWt.2.1 (i + 1) (by omega) (by omega)
      rw [show 120 * t + (i + 1) = 120 * t + i + 1 by omega] at hw2
      refine tt_aload_n X rfl dX10_usedOf_28 ?_
      refine tt_iload X rfl dX10_usedOf_29 ?_
      refine tt_iload X rfl dX10_usedOf_31 ?_
      refine tt_vi X rfl mX10_239 (q_woundAt l g ln ext _ _ _ (by omega) (by omega)) (k_60 _ _) ⟨_, rfl, rfl⟩ rfl rfl (Nat.le_of_ble_eq_true rfl) (by decide) (by decide) (by decide) dX10_usedOf_33 (fun z33 L33 μ33 hp => ?_)
      obtain ⟨rfl, e33, hz33⟩ := hp
      replace e33 := e33.symm
      subst e33
      refine tt_top hz33 ?_
      try simp (disch := decide) only [ot_rd, ot_rs, ot_rf, ot_ucd, ot_ucs] at hz33
      refine tt_istore X dX10_usedOf_36 (by decide) ?_
      refine tt_aload_n X rfl dX10_usedOf_38 ?_
      refine tt_iload X rfl dX10_usedOf_39 ?_
      refine tt_iload X rfl dX10_usedOf_41 ?_
      refine tt_iconst X dX10_usedOf_43 ?_
      refine tt_iadd X dX10_usedOf_44 ?_
      refine tt_vi X rfl mX10_239 (q_woundAt l g ln ext _ _ _ (by omega) (by omega)) (k_60 _ _) ⟨_, rfl, rfl⟩ rfl rfl (Nat.le_of_ble_eq_true rfl) (by decide) (by decide) (by decide) dX10_usedOf_45 (fun z45 L45 μ45 hp => ?_)
      obtain ⟨rfl, e45, hz45⟩ := hp
      replace e45 := e45.symm
      subst e45
      rw [show 120 * t + (i + 1) = 120 * t + i + 1 by omega] at hz45
      refine tt_top hz45 ?_
      try simp (disch := decide) only [ot_rd, ot_rs, ot_rf, ot_ucd, ot_ucs] at hz45
      refine tt_istore X dX10_usedOf_48 (by decide) ?_
      refine tt_iload X rfl dX10_usedOf_50 ?_
      refine tt_iload_n X rfl dX10_usedOf_52 ?_
      refine tt_icmp_ne X 62 (by first | omega | (simp (disch := decide) only [ot_rd, ot_rs, ot_rf, ot_ucd, ot_ucs]; omega)) dX10_usedOf_53 (by decide) (fun b53 => ?_) (fun b53 => ?_)
      · refine tt_iload X rfl dX10_usedOf_62 ?_
        refine tt_iload_n X rfl dX10_usedOf_64 ?_
        refine tt_icmp_ne X 78 (by first | omega | (simp (disch := decide) only [ot_rd, ot_rs, ot_rf, ot_ucd, ot_ucs]; omega)) dX10_usedOf_65 (by decide) (fun b65 => ?_) (fun b65 => ?_)
        · refine tt_iinc X dX10_usedOf_78 rfl (by decide) ?_
          refine tt_goto X 14 dX10_usedOf_81 (by decide) ?_
          refine tt_loc [(0, _), (1, _), (2, _), (3, _), (4, _), (5, _)] ⟨rfl, rfl, rfl, rfl, rfl, rfl, trivial⟩ ?_
          refine ih (i + 1, _) ⟨by show 0 ≤ i + 1 ∧ (i + 1 + 1 ≤ μ 64 t ∨ (i + 1 = 0 ∧ μ 64 t = 0)); omega, ?_⟩ (by show (μ 64 t - (i + 1)).toNat < (μ 64 t - i).toNat; omega)
          show _ = y + sumN _ (i + 1).toNat
          rw [sumN_toNat _ hI.1.1, hI.2]
          first | (rw [if_neg (by omega)]; omega) | (rw [if_pos (by omega)]; omega)
        · refine tt_iload X rfl dX10_usedOf_68 ?_
          refine tt_iload_n X rfl dX10_usedOf_70 ?_
          refine tt_icmp_ne X 78 (by first | omega | (simp (disch := decide) only [ot_rd, ot_rs, ot_rf, ot_ucd, ot_ucs]; omega)) dX10_usedOf_71 (by decide) (fun b71 => ?_) (fun b71 => ?_)
          · refine tt_iinc X dX10_usedOf_78 rfl (by decide) ?_
            refine tt_goto X 14 dX10_usedOf_81 (by decide) ?_
            refine tt_loc [(0, _), (1, _), (2, _), (3, _), (4, _), (5, _)] ⟨rfl, rfl, rfl, rfl, rfl, rfl, trivial⟩ ?_
            refine ih (i + 1, _) ⟨by show 0 ≤ i + 1 ∧ (i + 1 + 1 ≤ μ 64 t ∨ (i + 1 = 0 ∧ μ 64 t = 0)); omega, ?_⟩ (by show (μ 64 t - (i + 1)).toNat < (μ 64 t - i).toNat; omega)
            show _ = y + sumN _ (i + 1).toNat
            rw [sumN_toNat _ hI.1.1, hI.2]
            first | (rw [if_neg (by omega)]; omega) | (rw [if_pos (by omega)]; omega)
          · refine tt_iload_n X rfl dX10_usedOf_74 ?_
            refine tt_iconst X dX10_usedOf_75 ?_
            refine tt_iadd X dX10_usedOf_76 ?_
            refine tt_istore_n X dX10_usedOf_77 (by decide) ?_
            refine tt_iinc X dX10_usedOf_78 rfl (by decide) ?_
            refine tt_goto X 14 dX10_usedOf_81 (by decide) ?_
            refine tt_loc [(0, _), (1, _), (2, _), (3, _), (4, _), (5, _)] ⟨rfl, rfl, rfl, rfl, rfl, rfl, trivial⟩ ?_
            refine ih (i + 1, _) ⟨by show 0 ≤ i + 1 ∧ (i + 1 + 1 ≤ μ 64 t ∨ (i + 1 = 0 ∧ μ 64 t = 0)); omega, ?_⟩ (by show (μ 64 t - (i + 1)).toNat < (μ 64 t - i).toNat; omega)
            show _ = y + sumN _ (i + 1).toNat
            rw [sumN_toNat _ hI.1.1, hI.2]
            first | (rw [if_neg (by omega)]; omega) | (rw [if_pos (by omega)]; omega)
      · refine tt_iload X rfl dX10_usedOf_56 ?_
        refine tt_iload_n X rfl dX10_usedOf_58 ?_
        refine tt_icmp_eq X 74 (by first | omega | (simp (disch := decide) only [ot_rd, ot_rs, ot_rf, ot_ucd, ot_ucs]; omega)) dX10_usedOf_59 (by decide) (fun b59 => ?_) (fun b59 => ?_)
        · refine tt_iload_n X rfl dX10_usedOf_74 ?_
          refine tt_iconst X dX10_usedOf_75 ?_
          refine tt_iadd X dX10_usedOf_76 ?_
          refine tt_istore_n X dX10_usedOf_77 (by decide) ?_
          refine tt_iinc X dX10_usedOf_78 rfl (by decide) ?_
          refine tt_goto X 14 dX10_usedOf_81 (by decide) ?_
          refine tt_loc [(0, _), (1, _), (2, _), (3, _), (4, _), (5, _)] ⟨rfl, rfl, rfl, rfl, rfl, rfl, trivial⟩ ?_
          refine ih (i + 1, _) ⟨by show 0 ≤ i + 1 ∧ (i + 1 + 1 ≤ μ 64 t ∨ (i + 1 = 0 ∧ μ 64 t = 0)); omega, ?_⟩ (by show (μ 64 t - (i + 1)).toNat < (μ 64 t - i).toNat; omega)
          show _ = y + sumN _ (i + 1).toNat
          rw [sumN_toNat _ hI.1.1, hI.2]
          first | (rw [if_neg (by omega)]; omega) | (rw [if_pos (by omega)]; omega)
        · refine tt_iload X rfl dX10_usedOf_62 ?_
          refine tt_iload_n X rfl dX10_usedOf_64 ?_
          refine tt_icmp_ne X 78 (by first | omega | (simp (disch := decide) only [ot_rd, ot_rs, ot_rf, ot_ucd, ot_ucs]; omega)) dX10_usedOf_65 (by decide) (fun b65 => ?_) (fun b65 => ?_)
          · refine tt_iinc X dX10_usedOf_78 rfl (by decide) ?_
            refine tt_goto X 14 dX10_usedOf_81 (by decide) ?_
            refine tt_loc [(0, _), (1, _), (2, _), (3, _), (4, _), (5, _)] ⟨rfl, rfl, rfl, rfl, rfl, rfl, trivial⟩ ?_
            refine ih (i + 1, _) ⟨by show 0 ≤ i + 1 ∧ (i + 1 + 1 ≤ μ 64 t ∨ (i + 1 = 0 ∧ μ 64 t = 0)); omega, ?_⟩ (by show (μ 64 t - (i + 1)).toNat < (μ 64 t - i).toNat; omega)
            show _ = y + sumN _ (i + 1).toNat
            rw [sumN_toNat _ hI.1.1, hI.2]
            first | (rw [if_neg (by omega)]; omega) | (rw [if_pos (by omega)]; omega)
          · refine tt_iload X rfl dX10_usedOf_68 ?_
            refine tt_iload_n X rfl dX10_usedOf_70 ?_
            refine tt_icmp_ne X 78 (by first | omega | (simp (disch := decide) only [ot_rd, ot_rs, ot_rf, ot_ucd, ot_ucs]; omega)) dX10_usedOf_71 (by decide) (fun b71 => ?_) (fun b71 => ?_)
            · refine tt_iinc X dX10_usedOf_78 rfl (by decide) ?_
              refine tt_goto X 14 dX10_usedOf_81 (by decide) ?_
              refine tt_loc [(0, _), (1, _), (2, _), (3, _), (4, _), (5, _)] ⟨rfl, rfl, rfl, rfl, rfl, rfl, trivial⟩ ?_
              refine ih (i + 1, _) ⟨by show 0 ≤ i + 1 ∧ (i + 1 + 1 ≤ μ 64 t ∨ (i + 1 = 0 ∧ μ 64 t = 0)); omega, ?_⟩ (by show (μ 64 t - (i + 1)).toNat < (μ 64 t - i).toNat; omega)
              show _ = y + sumN _ (i + 1).toNat
              rw [sumN_toNat _ hI.1.1, hI.2]
              first | (rw [if_neg (by omega)]; omega) | (rw [if_pos (by omega)]; omega)
            · refine tt_iload_n X rfl dX10_usedOf_74 ?_
              refine tt_iconst X dX10_usedOf_75 ?_
              refine tt_iadd X dX10_usedOf_76 ?_
              refine tt_istore_n X dX10_usedOf_77 (by decide) ?_
              refine tt_iinc X dX10_usedOf_78 rfl (by decide) ?_
              refine tt_goto X 14 dX10_usedOf_81 (by decide) ?_
              refine tt_loc [(0, _), (1, _), (2, _), (3, _), (4, _), (5, _)] ⟨rfl, rfl, rfl, rfl, rfl, rfl, trivial⟩ ?_
              refine ih (i + 1, _) ⟨by show 0 ≤ i + 1 ∧ (i + 1 + 1 ≤ μ 64 t ∨ (i + 1 = 0 ∧ μ 64 t = 0)); omega, ?_⟩ (by show (μ 64 t - (i + 1)).toNat < (μ 64 t - i).toNat; omega)
              show _ = y + sumN _ (i + 1).toNat
              rw [sumN_toNat _ hI.1.1, hI.2]
              first | (rw [if_neg (by omega)]; omega) | (rw [if_pos (by omega)]; omega)
set_option maxRecDepth 100000 in
set_option maxHeartbeats 1000000 in
theorem q_lengthOfAll (l : Launch) (g : ot_G) (ln : Nat) (ext : ot_L) (μ : ot_M) (hG : gPin (μ 60 1) (μ 60 2) (μ 61) (μ 62)) (hW : gWnd (μ 60 2) (μ 64) (μ 65))  : ot_C l g yX10_lengthOfAll cX10_lengthOfAll 4 (some .int) 2 0 0 [.inr 60] (LL ln ext) μ (ot_pi (fun r L2 μ2 => L2 = LL ln ext ∧ μ2 = μ ∧ r = lenA (μ 61) (μ 62) (μ 64) (μ 65))) := by
  refine ot_enter (by decide) (Nat.le_of_ble_eq_true rfl) ?_
  intro p e s m args below meth c X hr
  have hNn := hG.2.1
  refine tt_iconst X dX10_lengthOfAll_0 ?_
  refine tt_istore_n X dX10_lengthOfAll_1 (by decide) ?_
  refine tt_iconst X dX10_lengthOfAll_2 ?_
  refine tt_istore_n X dX10_lengthOfAll_3 (by decide) ?_
  refine tt_loc [(0, _), (1, _), (2, _)] ⟨rfl, rfl, rfl, trivial⟩ ?_
  refine tt_loop (α := Int × Int) (fun ((t, y)) => (3 - t).toNat) (fun ((t, y)) => (0 ≤ t ∧ t ≤ 3) ∧ y = sumN (fun t => sumN (fun i => lenP (μ 61 (μ 65 (120 * t + i))) (μ 62 (μ 65 (120 * t + i))) (μ 61 (μ 65 (120 * t + i + 1))) (μ 62 (μ 65 (120 * t + i + 1)))) (μ 64 t - 1).toNat) t.toNat) (fun ((t, y)) => μ) (fun ((t, y)) => [(0, .inr 60), (1, .inl y), (2, .inl t)]) (0, 0) ⟨by show 0 ≤ (0 : Int) ∧ (0 : Int) ≤ 3; omega, rfl⟩ ?_
  intro a hIt iht
  obtain ⟨t, y⟩ := a
  try dsimp only at hIt iht ⊢
  replace hIt : (0 ≤ t ∧ t ≤ 3) ∧ y = sumN (fun t => sumN (fun i => lenP (μ 61 (μ 65 (120 * t + i))) (μ 62 (μ 65 (120 * t + i))) (μ 61 (μ 65 (120 * t + i + 1))) (μ 62 (μ 65 (120 * t + i + 1)))) (μ 64 t - 1).toNat) t.toNat := hIt
  have ht := hIt.1
  refine tt_iload_n X rfl dX10_lengthOfAll_4 ?_
  refine tt_iconst X dX10_lengthOfAll_5 ?_
  refine tt_icmp_ge X 56 (by first | omega | (simp (disch := decide) only [ot_rd, ot_rs, ot_rf, ot_ucd, ot_ucs]; omega)) dX10_lengthOfAll_6 (by decide) (fun b6 => ?_) (fun b6 => ?_)
  · refine tt_iload_n X rfl dX10_lengthOfAll_56 ?_
    refine tt_iret X ⟨hr.1, hr.2.1⟩ (by decide) (by decide) dX10_lengthOfAll_57 ?_
    refine ⟨rfl, rfl, ?_⟩
    rw [hIt.2, show t = 3 by omega]
    rfl
  · refine tt_iconst X dX10_lengthOfAll_9 ?_
    refine tt_istore_n X dX10_lengthOfAll_10 (by decide) ?_
    have hWt := hW t (by omega) (by omega)
    refine tt_loc [(0, _), (1, _), (2, _), (3, _)] ⟨rfl, rfl, rfl, rfl, trivial⟩ ?_
    refine tt_loop (α := Int × Int) (fun ((i, x)) => (μ 64 t - i).toNat) (fun ((i, x)) => (0 ≤ i ∧ (i + 1 ≤ μ 64 t ∨ (i = 0 ∧ μ 64 t = 0))) ∧ x = y + sumN (fun i => lenP (μ 61 (μ 65 (120 * t + i))) (μ 62 (μ 65 (120 * t + i))) (μ 61 (μ 65 (120 * t + i + 1))) (μ 62 (μ 65 (120 * t + i + 1)))) i.toNat) (fun ((i, x)) => μ) (fun ((i, x)) => [(0, .inr 60), (1, .inl x), (2, .inl t), (3, .inl i)]) (0, y) ⟨by show 0 ≤ (0 : Int) ∧ ((0 : Int) + 1 ≤ μ 64 t ∨ ((0 : Int) = 0 ∧ μ 64 t = 0)); omega, (Int.add_zero y).symm⟩ ?_
    intro a hI ih
    obtain ⟨i, x⟩ := a
    try dsimp only at hI ih ⊢
    replace hI : (0 ≤ i ∧ (i + 1 ≤ μ 64 t ∨ (i = 0 ∧ μ 64 t = 0))) ∧ x = y + sumN (fun i => lenP (μ 61 (μ 65 (120 * t + i))) (μ 62 (μ 65 (120 * t + i))) (μ 61 (μ 65 (120 * t + i + 1))) (μ 62 (μ 65 (120 * t + i + 1)))) i.toNat := hI
    have hi := hI.1
    refine tt_iload_n X rfl dX10_lengthOfAll_11 ?_
    refine tt_iconst X dX10_lengthOfAll_12 ?_
    refine tt_iadd X dX10_lengthOfAll_13 ?_
    refine tt_aload_n X rfl dX10_lengthOfAll_14 ?_
    refine tt_getr X fX10_23 (k_60 _ _) (by decide) ⟨nofun, nofun⟩ rfl dX10_lengthOfAll_15 ?_
    refine tt_iload_n X rfl dX10_lengthOfAll_18 ?_
    refine tt_iaload X (k_64 _ _) (by first | omega | (simp (disch := decide) only [ot_rd, ot_rs, ot_rf, ot_ucd, ot_ucs]; omega)) dX10_lengthOfAll_19 ?_
    try simp (disch := decide) only [ot_rd, ot_rs, ot_rf, ot_ucd, ot_ucs]
    refine tt_icmp_ge X 50 (by first | omega | (simp (disch := decide) only [ot_rd, ot_rs, ot_rf, ot_ucd, ot_ucs]; omega)) dX10_lengthOfAll_20 (by decide) (fun b20 => ?_) (fun b20 => ?_)
    · refine tt_iinc X dX10_lengthOfAll_50 rfl (by decide) ?_
      refine tt_goto X 4 dX10_lengthOfAll_53 (by decide) ?_
      refine tt_loc [(0, _), (1, _), (2, _)] ⟨rfl, rfl, rfl, trivial⟩ ?_
      refine iht (t + 1, x) ⟨by show 0 ≤ t + 1 ∧ t + 1 ≤ 3; omega, ?_⟩ (by show (3 - (t + 1)).toNat < (3 - t).toNat; omega)
      show x = sumN _ (t + 1).toNat
      rw [sumN_toNat _ hIt.1.1, ← hIt.2, hI.2]
      rcases (show i = μ 64 t - 1 ∨ (μ 64 t = 0 ∧ i = 0) by omega) with q | q
      · rw [q]
      · rw [q.1, q.2]; rfl
    · have hw1 := hWt.2.1 i (by omega) (by omega)
      have hw2 := hWt.2.1 (i + 1) (by omega) (by omega)
      rw [show 120 * t + (i + 1) = 120 * t + i + 1 by omega] at hw2
      have hg1 := gPin_at hG hw1.1 hw1.2
      have hg2 := gPin_at hG hw2.1 hw2.2
      refine tt_iload_n X rfl dX10_lengthOfAll_23 ?_
      refine tt_aload_n X rfl dX10_lengthOfAll_24 ?_
      refine tt_aload_n X rfl dX10_lengthOfAll_25 ?_
      refine tt_iload_n X rfl dX10_lengthOfAll_26 ?_
      refine tt_iload_n X rfl dX10_lengthOfAll_27 ?_
      refine tt_vi X rfl mX10_239 (q_woundAt l g ln ext _ _ _ (by omega) (by omega)) (k_60 _ _) ⟨_, rfl, rfl⟩ rfl rfl (Nat.le_of_ble_eq_true rfl) (by decide) (by decide) (by decide) dX10_lengthOfAll_28 (fun z28 L28 μ28 hp => ?_)
      obtain ⟨rfl, e28, hz28⟩ := hp
      replace e28 := e28.symm
      subst e28
      refine tt_top hz28 ?_
      try simp (disch := decide) only [ot_rd, ot_rs, ot_rf, ot_ucd, ot_ucs] at hz28
      refine tt_aload_n X rfl dX10_lengthOfAll_31 ?_
      refine tt_iload_n X rfl dX10_lengthOfAll_32 ?_
      refine tt_iload_n X rfl dX10_lengthOfAll_33 ?_
      refine tt_iconst X dX10_lengthOfAll_34 ?_
      refine tt_iadd X dX10_lengthOfAll_35 ?_
      refine tt_vi X rfl mX10_239 (q_woundAt l g ln ext _ _ _ (by omega) (by omega)) (k_60 _ _) ⟨_, rfl, rfl⟩ rfl rfl (Nat.le_of_ble_eq_true rfl) (by decide) (by decide) (by decide) dX10_lengthOfAll_36 (fun z36 L36 μ36 hp => ?_)
      obtain ⟨rfl, e36, hz36⟩ := hp
      replace e36 := e36.symm
      subst e36
      rw [show 120 * t + (i + 1) = 120 * t + i + 1 by omega] at hz36
      refine tt_top hz36 ?_
      try simp (disch := decide) only [ot_rd, ot_rs, ot_rf, ot_ucd, ot_ucs] at hz36
      refine tt_vi X rfl mX10_230 (q_lengthOf l g ln ext _ _ _ (by first | omega | (simp (disch := decide) only [ot_rd, ot_rs, ot_rf, ot_ucd, ot_ucs]; omega)) (by first | omega | (simp (disch := decide) only [ot_rd, ot_rs, ot_rf, ot_ucd, ot_ucs]; omega)) (by first | omega | (simp (disch := decide) only [ot_rd, ot_rs, ot_rf, ot_ucd, ot_ucs]; omega))) (k_60 _ _) ⟨_, rfl, rfl⟩ rfl rfl (Nat.le_of_ble_eq_true rfl) (by decide) (by decide) (by decide) dX10_lengthOfAll_39 (fun z39 L39 μ39 hp => ?_)
      obtain ⟨rfl, e39, hz39⟩ := hp
      replace e39 := e39.symm
      subst e39
      try simp (disch := decide) only [ot_rd, ot_rs, ot_rf, ot_ucd, ot_ucs] at hz39
      refine tt_iadd X dX10_lengthOfAll_42 ?_
      refine tt_istore_n X dX10_lengthOfAll_43 (by decide) ?_
      refine tt_iinc X dX10_lengthOfAll_44 rfl (by decide) ?_
      refine tt_goto X 11 dX10_lengthOfAll_47 (by decide) ?_
      refine tt_loc [(0, _), (1, _), (2, _), (3, _)] ⟨rfl, rfl, rfl, rfl, trivial⟩ ?_
      refine ih (i + 1, _) ⟨by show 0 ≤ i + 1 ∧ (i + 1 + 1 ≤ μ 64 t ∨ (i + 1 = 0 ∧ μ 64 t = 0)); omega, ?_⟩ (by show (μ 64 t - (i + 1)).toNat < (μ 64 t - i).toNat; omega)
      show _ = y + sumN _ (i + 1).toNat
      rw [sumN_toNat _ hI.1.1, hI.2]
      rw [hz39]; simp only [lenP]; omega

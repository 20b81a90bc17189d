theorem ot_uc5 {μ : ot_M} {z0 f z D U : Int → Int} : ot_uc (ot_uc (ot_uc (ot_uc (ot_uc μ 39 z0) 38 f) 39 z) 34 D) 35 U = ot_uc (ot_uc (ot_uc (ot_uc μ 38 f) 39 z) 34 D) 35 U := by
  funext k j
  by_cases h1 : k = 39
  · simp [ot_uc, h1]
  · simp [ot_uc, h1]
set_option maxRecDepth 100000 in
set_option maxHeartbeats 1000000 in
theorem c_renew (l : Launch) (g : ot_G) (ln : Nat) (ext : ot_L) (μ : ot_M) (hG : gPin (μ 1 11) (μ 1 12) (μ 2) (μ 3)) (hW : gWnd (μ 1 12) (μ 8) (μ 7))  : ot_C l g yX1_renew cX1_renew 1 none 6 0 0 [.inr 33] (LL ln ext) μ (ot_pv (fun L2 μ2 => L2 = LL ln ext ∧ ∃ f z, gChd (μ 1 11) (μ 1 12) (μ 2) (μ 3) f z ∧ μ2 = ot_uc (ot_uc (ot_uc (ot_uc μ 38 f) 39 z) 34 (wr 64 (μ 34) (dk (μ 1 11) (μ 2) (μ 3) (μ 8) (μ 7) (μ 6)))) 35 (wr 276 (μ 35) (usC (μ 8) (μ 7))))) := by
  refine ot_enter (by decide) (Nat.le_of_ble_eq_true rfl) ?_
  intro p e s m args below meth c X hr
  refine tt_aload_n X rfl dX1_renew_0 ?_
  refine tt_getr X fX1_32 (k_33 _ _) (by decide) ⟨nofun, nofun⟩ rfl dX1_renew_1 ?_
  refine tt_vv X rfl mX1_36 (c_forget l g ln ext _) (k_37 _ _) ⟨_, rfl, rfl⟩ rfl rfl (Nat.le_of_ble_eq_true rfl) (by decide) (by decide) (by decide) dX1_renew_4 (fun L4 μ4 hp => ?_)
  obtain ⟨rfl, rfl⟩ := hp
  refine tt_aload_n X rfl dX1_renew_7 ?_
  refine tt_vv X rfl mX1_39 (c_tally l g ln ext _ (by simp (disch := decide) only [ot_ucd, ot_ucs, ot_rd, ot_rs]; exact hG) (by simp (disch := decide) only [ot_ucd, ot_ucs, ot_rd, ot_rs]; exact gChd_zero hG.2.1.2 (fun c c1 c2 => wr_in ⟨c1, c2⟩)) (by simp (disch := decide) only [ot_ucd, ot_ucs, ot_rd, ot_rs]; exact hW)) (k_33 _ _) ⟨_, rfl, rfl⟩ rfl rfl (Nat.le_of_ble_eq_true rfl) (by decide) (by decide) (by decide) dX1_renew_8 (fun L8 μ8 hp => ?_)
  obtain ⟨rfl, f, z, hc, rfl⟩ := hp
  simp (disch := decide) only [ot_ucd, ot_ucs, ot_rd, ot_rs] at hc ⊢
  refine tt_vret X ⟨hr.1, hr.2.1⟩ (by decide) (by decide) dX1_renew_11 ?_
  refine ⟨rfl, f, z, hc, ?_⟩
  rw [ot_uc5]
set_option maxRecDepth 100000 in
set_option maxHeartbeats 1000000 in
theorem c_farOf (l : Launch) (g : ot_G) (ln : Nat) (ext : ot_L) (μ : ot_M) (q : Int) (hq : 0 ≤ q ∧ q < 4) (hF : gFar (μ 4) (μ 34) q) : ot_C l g yX1_farOf cX1_farOf 5 (some .int) 1 0 0 [.inr 33, .inl q] (LL ln ext) μ (ot_pi (fun r L2 μ2 => L2 = LL ln ext ∧ μ2 = μ ∧ r = farS (μ 5) (μ 4) (μ 34) q)) := by
  refine ot_enter (by decide) (Nat.le_of_ble_eq_true rfl) ?_
  intro p e s m args below meth c X hr
  refine tt_iload_n X rfl dX1_farOf_0 ?_
  refine tt_bipush X (by decide) dX1_farOf_1 ?_
  refine tt_imul X dX1_farOf_3 ?_
  refine tt_istore_n X dX1_farOf_4 (by decide) ?_
  refine tt_iconst X dX1_farOf_5 ?_
  refine tt_istore_n X dX1_farOf_6 (by decide) ?_
  refine tt_iconst X dX1_farOf_7 ?_
  refine tt_istore X dX1_farOf_8 (by decide) ?_
  refine tt_loc [(0, _), (2, _), (3, _), (4, _)] ⟨rfl, rfl, rfl, rfl, trivial⟩ ?_
  refine tt_loop (α := Int × Int) (fun ((k, y)) => (64 - k).toNat) (fun ((k, y)) => (0 ≤ k ∧ k ≤ 64) ∧ y = sumN (fun k => μ 5 k * ((μ 4 (64 * q + k) - μ 34 k).natAbs : Int)) k.toNat) (fun ((k, y)) => μ) (fun ((k, y)) => [(0, .inr 33), (2, .inl (q * 64)), (3, .inl y), (4, .inl k)]) (0, 0) ⟨by show 0 ≤ (0 : Int) ∧ (0 : Int) ≤ 64; omega, rfl⟩ ?_
  intro a hI ih
  obtain ⟨k, y⟩ := a
  try dsimp only at hI ih ⊢
  replace hI : (0 ≤ k ∧ k ≤ 64) ∧ y = sumN (fun k => μ 5 k * ((μ 4 (64 * q + k) - μ 34 k).natAbs : Int)) k.toNat := hI
  have hk := hI.1
  refine tt_iload X rfl dX1_farOf_10 ?_
  refine tt_bipush X (by decide) dX1_farOf_12 ?_
  refine tt_icmp_ge X 60 (by first | omega | (simp (disch := decide) only [ot_rd, ot_rs, ot_rf, ot_ucd, ot_ucs]; omega)) dX1_farOf_14 (by decide) (fun b14 => ?_) (fun b14 => ?_)
  · refine tt_iload_n X rfl dX1_farOf_60 ?_
    refine tt_iret X ⟨hr.1, hr.2.1⟩ (by decide) (by decide) dX1_farOf_61 ?_
    refine ⟨rfl, rfl, ?_⟩
    rw [hI.2, show k = 64 by omega]
    rfl
  · have hFk := hF k (by omega) (by omega)
    refine tt_iload_n X rfl dX1_farOf_17 ?_
    refine tt_aload_n X rfl dX1_farOf_18 ?_
    refine tt_getr X fX1_25 (k_33 _ _) (by decide) ⟨nofun, nofun⟩ rfl dX1_farOf_19 ?_
    refine tt_getr X fX1_110 (k_1 _ _) (by decide) ⟨nofun, nofun⟩ rfl dX1_farOf_22 ?_
    refine tt_iload X rfl dX1_farOf_25 ?_
    refine tt_iaload X (k_5 _ _) (by first | omega | (simp (disch := decide) only [ot_rd, ot_rs, ot_rf, ot_ucd, ot_ucs]; omega)) dX1_farOf_27 ?_
    try simp (disch := decide) only [ot_rd, ot_rs, ot_rf, ot_ucd, ot_ucs]
    refine tt_aload_n X rfl dX1_farOf_28 ?_
    refine tt_getr X fX1_25 (k_33 _ _) (by decide) ⟨nofun, nofun⟩ rfl dX1_farOf_29 ?_
    refine tt_getr X fX1_113 (k_1 _ _) (by decide) ⟨nofun, nofun⟩ rfl dX1_farOf_32 ?_
    refine tt_iload_n X rfl dX1_farOf_35 ?_
    refine tt_iload X rfl dX1_farOf_36 ?_
    refine tt_iadd X dX1_farOf_38 ?_
    refine tt_iaload X (k_4 _ _) (by first | omega | (simp (disch := decide) only [ot_rd, ot_rs, ot_rf, ot_ucd, ot_ucs]; omega)) dX1_farOf_39 ?_
    try simp (disch := decide) only [ot_rd, ot_rs, ot_rf, ot_ucd, ot_ucs]
    refine tt_top (show _ = μ 4 (64 * q + k) by rw [show q * 64 + k = 64 * q + k by omega]) ?_
    refine tt_aload_n X rfl dX1_farOf_40 ?_
    refine tt_getr X fX1_9 (k_33 _ _) (by decide) ⟨nofun, nofun⟩ rfl dX1_farOf_41 ?_
    refine tt_iload X rfl dX1_farOf_44 ?_
    refine tt_iaload X (k_34 _ _) (by first | omega | (simp (disch := decide) only [ot_rd, ot_rs, ot_rf, ot_ucd, ot_ucs]; omega)) dX1_farOf_46 ?_
    try simp (disch := decide) only [ot_rd, ot_rs, ot_rf, ot_ucd, ot_ucs]
    refine tt_isub X dX1_farOf_47 ?_
    refine tt_abs X rfl mX1_116 (by omega) (Nat.le_of_ble_eq_true rfl) (by decide) (by decide) dX1_farOf_48 ?_
    refine tt_imul X dX1_farOf_51 ?_
    refine tt_iadd X dX1_farOf_52 ?_
    refine tt_istore_n X dX1_farOf_53 (by decide) ?_
    refine tt_iinc X dX1_farOf_54 rfl (by decide) ?_
    refine tt_goto X 10 dX1_farOf_57 (by decide) ?_
    refine tt_loc [(0, _), (2, _), (3, _), (4, _)] ⟨rfl, rfl, rfl, rfl, trivial⟩ ?_
    refine ih (k + 1, _) ⟨by show 0 ≤ k + 1 ∧ k + 1 ≤ 64; omega, ?_⟩ (by show (64 - (k + 1)).toNat < (64 - k).toNat; omega)
    show _ = sumN _ (k + 1).toNat
    rw [sumN_toNat _ hI.1.1, ← hI.2]
/-- by how much FAR were less -/
def gainS (w want dark sm : Int → Int) (p x : Int) : Int := sumN (fun k => w k * (((want (64 * p + k) - dark k).natAbs : Int) - ((want (64 * p + k) - dark k - x * sm k).natAbs : Int))) 64
set_option maxRecDepth 100000 in
set_option maxHeartbeats 1000000 in
theorem c_gainBy (l : Launch) (g : ot_G) (ln : Nat) (ext : ot_L) (μ : ot_M) (q h x a b : Int) (hq : 0 ≤ q ∧ q < 4) (hh : 0 ≤ h ∧ h < 276) (hx : -9 ≤ x ∧ x ≤ 9) (hF : gFar (μ 4) (μ 34) q) (hrow : gRow (μ 1 11) (μ 2 (min a b)) (μ 3 (min a b)) (μ 2 (max a b)) (μ 3 (max a b)) (μ 38) (h * 16) (μ 39 h)) : ot_C l g yX1_gainBy cX1_gainBy 10 (some .int) 2 0 0 [.inr 33, .inl q, .inl h, .inl x] (LL ln ext) μ (ot_pi (fun r L2 μ2 => L2 = LL ln ext ∧ μ2 = μ ∧ r = gainS (μ 5) (μ 4) (μ 34) (smp (μ 1 11) (μ 2) (μ 3) a b) q x)) := by
  refine ot_enter (by decide) (Nat.le_of_ble_eq_true rfl) ?_
  intro p e s m args below meth c X hr
  have hr1 := hrow.1
  refine tt_iload_n X rfl dX1_gainBy_0 ?_
  refine tt_bipush X (by decide) dX1_gainBy_1 ?_
  refine tt_imul X dX1_gainBy_3 ?_
  refine tt_istore X dX1_gainBy_4 (by decide) ?_
  refine tt_iconst X dX1_gainBy_6 ?_
  refine tt_istore X dX1_gainBy_7 (by decide) ?_
  refine tt_iconst X dX1_gainBy_9 ?_
  refine tt_istore X dX1_gainBy_10 (by decide) ?_
  refine tt_loc [(0, _), (2, _), (3, _), (4, _), (5, _), (6, _)] ⟨rfl, rfl, rfl, rfl, rfl, rfl, trivial⟩ ?_
  refine tt_loop (α := Int × Int) (fun ((i, y)) => (μ 39 h - i).toNat) (fun ((i, y)) => (0 ≤ i ∧ i ≤ μ 39 h) ∧ y = sumN (fun c => (fun k s => μ 5 k * (((μ 4 (64 * q + k) - μ 34 k).natAbs : Int) - ((μ 4 (64 * q + k) - μ 34 k - x * s).natAbs : Int))) (μ 38 (h * 16 + c) / 16) (μ 38 (h * 16 + c) % 16)) i.toNat) (fun ((i, y)) => μ) (fun ((i, y)) => [(0, .inr 33), (2, .inl h), (3, .inl x), (4, .inl (q * 64)), (5, .inl y), (6, .inl i)]) (0, 0) ⟨by show 0 ≤ (0 : Int) ∧ (0 : Int) ≤ μ 39 h; omega, rfl⟩ ?_
  intro a hI ih
  obtain ⟨i, y⟩ := a
  try dsimp only at hI ih ⊢
  replace hI : (0 ≤ i ∧ i ≤ μ 39 h) ∧ y = sumN (fun c => (fun k s => μ 5 k * (((μ 4 (64 * q + k) - μ 34 k).natAbs : Int) - ((μ 4 (64 * q + k) - μ 34 k - x * s).natAbs : Int))) (μ 38 (h * 16 + c) / 16) (μ 38 (h * 16 + c) % 16)) i.toNat := hI
  have hi := hI.1
  refine tt_iload X rfl dX1_gainBy_12 ?_
  refine tt_aload_n X rfl dX1_gainBy_14 ?_
  refine tt_getr X fX1_32 (k_33 _ _) (by decide) ⟨nofun, nofun⟩ rfl dX1_gainBy_15 ?_
  refine tt_iload_n X rfl dX1_gainBy_18 ?_
  refine tt_vi X rfl mX1_67 (c_sizeOf l g ln ext _ _ (by omega)) (k_37 _ _) ⟨_, rfl, rfl⟩ rfl rfl (Nat.le_of_ble_eq_true rfl) (by decide) (by decide) (by decide) dX1_gainBy_19 (fun z19 L19 μ19 hp => ?_)
  obtain ⟨rfl, e19, hz19⟩ := hp
  replace e19 := e19.symm
  subst e19
  refine tt_top hz19 ?_
  try simp (disch := decide) only [ot_rd, ot_rs, ot_rf, ot_ucd, ot_ucs] at hz19
  refine tt_icmp_ge X 110 (by first | omega | (simp (disch := decide) only [ot_rd, ot_rs, ot_rf, ot_ucd, ot_ucs]; omega)) dX1_gainBy_22 (by decide) (fun b22 => ?_) (fun b22 => ?_)
  · refine tt_iload X rfl dX1_gainBy_110 ?_
    refine tt_iret X ⟨hr.1, hr.2.1⟩ (by decide) (by decide) dX1_gainBy_112 ?_
    refine ⟨rfl, rfl, ?_⟩
    rw [hI.2, show i = μ 39 h by omega]
    have e := rowSum (F := (fun k s => μ 5 k * (((μ 4 (64 * q + k) - μ 34 k).natAbs : Int) - ((μ 4 (64 * q + k) - μ 34 k - x * s).natAbs : Int)))) (fun k => by simp) (cl := μ 38) (o := h * 16) (m := (μ 39 h).toNat) (fun c c1 c2 => (hrow.2.1 c c1 (by omega)).1) (fun c d c1 c2 d1 d2 w => hrow.2.2.1 c d c1 (by omega) d1 (by omega) w)
    rw [e]
    exact sumN_congr (fun k _ _ => by rw [gRow_smp hrow k])
  · have hrc := hrow.2.1 i (by omega) (by omega)
    refine tt_aload_n X rfl dX1_gainBy_25 ?_
    refine tt_getr X fX1_32 (k_33 _ _) (by decide) ⟨nofun, nofun⟩ rfl dX1_gainBy_26 ?_
    refine tt_iload_n X rfl dX1_gainBy_29 ?_
    refine tt_iload X rfl dX1_gainBy_30 ?_
    refine tt_vi X rfl mX1_71 (c_squareOf l g ln ext _ _ _ (by omega) (by omega) hrc.1) (k_37 _ _) ⟨_, rfl, rfl⟩ rfl rfl (Nat.le_of_ble_eq_true rfl) (by decide) (by decide) (by decide) dX1_gainBy_32 (fun z32 L32 μ32 hp => ?_)
    obtain ⟨rfl, e32, hz32⟩ := hp
    replace e32 := e32.symm
    subst e32
    have hFk := hF z32 (by omega) (by omega)
    try simp (disch := decide) only [ot_rd, ot_rs, ot_rf, ot_ucd, ot_ucs] at hz32
    refine tt_istore X dX1_gainBy_35 (by decide) ?_
    refine tt_aload_n X rfl dX1_gainBy_37 ?_
    refine tt_getr X fX1_25 (k_33 _ _) (by decide) ⟨nofun, nofun⟩ rfl dX1_gainBy_38 ?_
    refine tt_getr X fX1_113 (k_1 _ _) (by decide) ⟨nofun, nofun⟩ rfl dX1_gainBy_41 ?_
    refine tt_iload X rfl dX1_gainBy_44 ?_
    refine tt_iload X rfl dX1_gainBy_46 ?_
    refine tt_iadd X dX1_gainBy_48 ?_
    refine tt_iaload X (k_4 _ _) (by first | omega | (simp (disch := decide) only [ot_rd, ot_rs, ot_rf, ot_ucd, ot_ucs]; omega)) dX1_gainBy_49 ?_
    try simp (disch := decide) only [ot_rd, ot_rs, ot_rf, ot_ucd, ot_ucs]
    refine tt_top (show _ = μ 4 (64 * q + z32) by rw [show q * 64 + z32 = 64 * q + z32 by omega]) ?_
    refine tt_aload_n X rfl dX1_gainBy_50 ?_
    refine tt_getr X fX1_9 (k_33 _ _) (by decide) ⟨nofun, nofun⟩ rfl dX1_gainBy_51 ?_
    refine tt_iload X rfl dX1_gainBy_54 ?_
    refine tt_iaload X (k_34 _ _) (by first | omega | (simp (disch := decide) only [ot_rd, ot_rs, ot_rf, ot_ucd, ot_ucs]; omega)) dX1_gainBy_56 ?_
    try simp (disch := decide) only [ot_rd, ot_rs, ot_rf, ot_ucd, ot_ucs]
    refine tt_isub X dX1_gainBy_57 ?_
    refine tt_istore X dX1_gainBy_58 (by decide) ?_
    refine tt_iload X rfl dX1_gainBy_60 ?_
    refine tt_iload_n X rfl dX1_gainBy_62 ?_
    refine tt_aload_n X rfl dX1_gainBy_63 ?_
    refine tt_getr X fX1_32 (k_33 _ _) (by decide) ⟨nofun, nofun⟩ rfl dX1_gainBy_64 ?_
    refine tt_iload_n X rfl dX1_gainBy_67 ?_
    refine tt_iload X rfl dX1_gainBy_68 ?_
    refine tt_vi X rfl mX1_74 (c_middlesOf l g ln ext _ _ _ (by omega) (by omega) hrc.1) (k_37 _ _) ⟨_, rfl, rfl⟩ rfl rfl (Nat.le_of_ble_eq_true rfl) (by decide) (by decide) (by decide) dX1_gainBy_70 (fun z70 L70 μ70 hp => ?_)
    obtain ⟨rfl, e70, hz70⟩ := hp
    replace e70 := e70.symm
    subst e70
    have hxz := mul_bd hx (z := z70) (by omega)
    try simp (disch := decide) only [ot_rd, ot_rs, ot_rf, ot_ucd, ot_ucs] at hz70
    refine tt_imul X dX1_gainBy_73 ?_
    refine tt_isub X dX1_gainBy_74 ?_
    refine tt_istore X dX1_gainBy_75 (by decide) ?_
    refine tt_iload X rfl dX1_gainBy_77 ?_
    refine tt_aload_n X rfl dX1_gainBy_79 ?_
    refine tt_getr X fX1_25 (k_33 _ _) (by decide) ⟨nofun, nofun⟩ rfl dX1_gainBy_80 ?_
    refine tt_getr X fX1_110 (k_1 _ _) (by decide) ⟨nofun, nofun⟩ rfl dX1_gainBy_83 ?_
    refine tt_iload X rfl dX1_gainBy_86 ?_
    refine tt_iaload X (k_5 _ _) (by first | omega | (simp (disch := decide) only [ot_rd, ot_rs, ot_rf, ot_ucd, ot_ucs]; omega)) dX1_gainBy_88 ?_
    try simp (disch := decide) only [ot_rd, ot_rs, ot_rf, ot_ucd, ot_ucs]
    refine tt_iload X rfl dX1_gainBy_89 ?_
    refine tt_abs X rfl mX1_116 (by omega) (Nat.le_of_ble_eq_true rfl) (by decide) (by decide) dX1_gainBy_91 ?_
    refine tt_iload X rfl dX1_gainBy_94 ?_
    refine tt_abs X rfl mX1_116 (by omega) (Nat.le_of_ble_eq_true rfl) (by decide) (by decide) dX1_gainBy_96 ?_
    refine tt_isub X dX1_gainBy_99 ?_
    refine tt_imul X dX1_gainBy_100 ?_
    refine tt_iadd X dX1_gainBy_101 ?_
    refine tt_istore X dX1_gainBy_102 (by decide) ?_
    refine tt_iinc X dX1_gainBy_104 rfl (by decide) ?_
    refine tt_goto X 12 dX1_gainBy_107 (by decide) ?_
    refine tt_loc [(0, _), (2, _), (3, _), (4, _), (5, _), (6, _)] ⟨rfl, rfl, rfl, rfl, rfl, rfl, trivial⟩ ?_
    refine ih (i + 1, _) ⟨by show 0 ≤ i + 1 ∧ i + 1 ≤ μ 39 h; omega, ?_⟩ (by show (μ 39 h - (i + 1)).toNat < (μ 39 h - i).toNat; omega)
    show _ = sumN _ (i + 1).toNat
    rw [sumN_toNat _ hI.1.1, ← hI.2, ← hz32, ← hz70]

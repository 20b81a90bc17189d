/-- rows of bits that hold the lines of the first m pins, each at its lesser pin -/
def gH (k s n m : Int) (F : Int → Int) : Prop := ∀ a, 0 ≤ a → a < 24 → (0 ≤ F a ∧ F a < 16777216) ∧ ∀ b, a < b → b < n → bt (F a) b = eP k s n m a b
theorem eP_same {k s n m a b : Int} (h : rlf k s n m = m ∨ (eP k s n m m (rlf k s n m) = true)) : eP k s n (m + 1) a b = eP k s n m a b := by
  rw [Bool.eq_iff_iff, eP_step]
  constructor
  · rintro (w | w)
    · exact w
    · rcases h with h | h
      · exact absurd h w.1
      · rcases w.2 with q | q
        · rw [q.1, q.2]; exact h
        · rw [q.1, q.2, eP_comm]; exact h
  · exact Or.inl
theorem gH_same {k s n m : Int} {F : Int → Int} (h : gH k s n m F) (hs : rlf k s n m = m ∨ (eP k s n m m (rlf k s n m) = true)) : gH k s n (m + 1) F := by
  intro a a1 a2
  refine ⟨(h a a1 a2).1, fun b b1 b2 => ?_⟩
  rw [(h a a1 a2).2 b b1 b2, eP_same hs]
theorem gH_set {k s n m j : Int} {F : Int → Int} (hn : 0 < n ∧ n ≤ 24) (hm : 0 ≤ m ∧ m < n) (h : gH k s n m F) (hj : j = rlf k s n m) (hne : j ≠ m) : gH k s n (m + 1) (up1 F (min m j) (ot_or (F (min m j)) (ot_shl 1 (max m j)))) := by
  have hjr := rlf_in (k := k) (s := s) (i := m) hn.1
  rw [← hj] at hjr
  intro a a1 a2
  by_cases e1 : a = min m j
  · subst e1
    rw [up1_s]
    have ha := h (min m j) a1 a2
    refine ⟨bt_or_rng (n := 24) (by decide) (by omega) (by omega), fun b b1 b2 => ?_⟩
    rw [bt_or (by omega) (by omega) (by omega), ha.2 b b1 b2, Bool.eq_iff_iff, Bool.or_eq_true, decide_eq_true_eq, eP_step, ← hj]
    constructor
    · rintro (w | w)
      · exact Or.inl w
      · exact Or.inr ⟨hne, by omega⟩
    · rintro (w | w)
      · exact Or.inl w
      · exact Or.inr (by omega)
  · rw [up1_n e1]
    refine ⟨(h a a1 a2).1, fun b b1 b2 => ?_⟩
    rw [(h a a1 a2).2 b b1 b2, Bool.eq_iff_iff, eP_step, ← hj]
    constructor
    · exact Or.inl
    · rintro (w | w)
      · exact w
      · omega
theorem pairS_step {k s n m j : Int} (hn : 0 < n ∧ n ≤ 24) (hm : 0 ≤ m ∧ m < n) (hj : j = rlf k s n m) (hne : j ≠ m) (h0 : eP k s n m (min m j) (max m j) = false) : pairS (fun a b => if eP k s n (m + 1) a b then 1 else 0) n.toNat = pairS (fun a b => if eP k s n m a b then 1 else 0) n.toNat + 1 := by
  have hjr := rlf_in (k := k) (s := s) (i := m) hn.1
  rw [← hj] at hjr
  refine pairS_add (x := min m j) (y := max m j) (by omega) (by omega) (by omega) h0 ?_ ?_
  · rw [eP_step, ← hj]
    exact Or.inr ⟨hne, by omega⟩
  · intro a b a1 a2 a3 a4
    rw [Bool.eq_iff_iff, eP_step, ← hj]
    constructor
    · rintro (w | w)
      · exact w
      · omega
    · exact Or.inl
theorem mod_ne {a b t n : Int} (ha : 0 ≤ a) (hab : a < b) (hb : b < n) : (a + t) % n ≠ (b + t) % n := by
  intro h
  have h1 := Int.emod_emod_of_dvd (b + t - (a + t)) (Int.dvd_refl n)
  have h2 : (b + t - (a + t)) % n = 0 := Int.emod_eq_zero_of_dvd (Int.dvd_of_emod_eq_zero (by rw [Int.sub_emod, h, Int.sub_self]; rfl))
  rw [show b + t - (a + t) = b - a by omega, Int.emod_eq_of_lt (by omega) (by omega)] at h2
  omega
set_option maxRecDepth 100000 in
set_option maxHeartbeats 1000000 in
theorem c_hasLine (l : Launch) (g : ot_G) (ln : Nat) (ext : ot_L) (μ : ot_M) (a b : Int) (ha : 0 ≤ a ∧ a < 24) (hb : 0 ≤ b ∧ b < 24) (hv : 0 ≤ μ 48 (min a b) ∧ μ 48 (min a b) < 16777216) : ot_C l g yX6_hasLine cX6_hasLine 3 (some .boolean) 1 0 0 [.inr 47, .inl a, .inl b] (LL ln ext) μ (ot_pi (fun r L2 μ2 => L2 = LL ln ext ∧ μ2 = μ ∧ r = (if bt (μ 48 (min a b)) (max a b) then 1 else 0))) := by
  refine ot_enter (by decide) (Nat.le_of_ble_eq_true rfl) ?_
  intro p e s m args below meth c X hr
  refine tt_aload_n X rfl dX6_hasLine_0 ?_
  refine tt_getr X fX6_9 (k_47 _ _) (by decide) ⟨nofun, nofun⟩ rfl dX6_hasLine_1 ?_
  refine tt_iload_n X rfl dX6_hasLine_4 ?_
  refine tt_iload_n X rfl dX6_hasLine_5 ?_
  refine tt_min X rfl mX6_42 (by omega) (Nat.le_of_ble_eq_true rfl) (by decide) (by decide) dX6_hasLine_6 ?_
  refine tt_iaload X (k_48 _ _) (by omega) dX6_hasLine_9 ?_
  refine tt_iload_n X rfl dX6_hasLine_10 ?_
  refine tt_iload_n X rfl dX6_hasLine_11 ?_
  refine tt_max X rfl mX6_48 (by omega) (Nat.le_of_ble_eq_true rfl) (by decide) (by decide) dX6_hasLine_12 ?_
  refine tt_ishr X dX6_hasLine_15 ?_
  refine tt_iconst X dX6_hasLine_16 ?_
  refine tt_iand X dX6_hasLine_17 ?_
  refine tt_top (bt_test (by omega) (by omega)) ?_
  refine tt_iconst X dX6_hasLine_18 ?_
  refine tt_icmp_ne X 26 (by split <;> omega) dX6_hasLine_19 (by decide) (fun b19 => ?_) (fun b19 => ?_)
  · refine tt_iconst X dX6_hasLine_26 ?_
    refine tt_zret X ⟨hr.1, hr.2.1⟩ (by omega) (by decide) (by decide) dX6_hasLine_27 ?_
    refine ⟨rfl, rfl, ?_⟩
    cases hbt : bt (μ 48 (min a b)) (max a b) <;> simp [hbt] at b19 ⊢
  · refine tt_iconst X dX6_hasLine_22 ?_
    refine tt_goto X 27 dX6_hasLine_23 (by decide) ?_
    refine tt_zret X ⟨hr.1, hr.2.1⟩ (by omega) (by decide) (by decide) dX6_hasLine_27 ?_
    refine ⟨rfl, rfl, ?_⟩
    cases hbt : bt (μ 48 (min a b)) (max a b) <;> simp [hbt] at b19 ⊢
set_option maxRecDepth 100000 in
set_option maxHeartbeats 1000000 in
theorem c_draw (l : Launch) (g : ot_G) (ln : Nat) (ext : ot_L) (μ : ot_M) (k s0 : Int) (hN : 0 < μ 1 12 ∧ μ 1 12 ≤ 24) (hk : 0 ≤ k ∧ k ≤ 99) (hs : 0 ≤ s0 ∧ s0 ≤ 99) : ot_C l g yX6_draw cX6_draw 5 none 2 0 0 [.inr 47, .inl k, .inl s0] (LL ln ext) μ (ot_pv (fun L2 μ2 => L2 = LL ln ext ∧ ∃ F, gH k s0 (μ 1 12) (μ 1 12) F ∧ μ2 = ot_up (ot_uc μ 48 F) 47 3 (pairS (fun a b => if eP k s0 (μ 1 12) (μ 1 12) a b then 1 else 0) (μ 1 12).toNat))) := by
  refine ot_enter (by decide) (Nat.le_of_ble_eq_true rfl) ?_
  intro p e s m args below meth c X hr
  refine tt_aload_n X rfl dX6_draw_0 ?_
  refine tt_getr X fX6_9 (k_47 _ _) (by decide) ⟨nofun, nofun⟩ rfl dX6_draw_1 ?_
  refine tt_iconst X dX6_draw_4 ?_
  refine tt_sv X rfl mX6_23 (c_fill l g ln ext _ (rs := []) 48 24 _ (k_48 _ _) (by decide)) rfl rfl (Nat.le_of_ble_eq_true rfl) (by decide) (by decide) (by decide) dX6_draw_5 (fun L5 μ5 hp => ?_)
  obtain ⟨rfl, rfl⟩ := hp
  refine tt_aload_n X rfl dX6_draw_8 ?_
  refine tt_iconst X dX6_draw_9 ?_
  refine tt_puti X fX6_29 kc_6 (k_47 _ _) (by decide) (fun q hq => by cases hq; rfl) rfl dX6_draw_10 ?_
  refine tt_iconst X dX6_draw_13 ?_
  refine tt_istore_n X dX6_draw_14 (by decide) ?_
  refine tt_loc [(0, _), (1, _), (2, _), (3, _)] ⟨rfl, rfl, rfl, rfl, trivial⟩ ?_
  refine tt_loop (α := Int × (Int → Int) × Int) (fun ((i, F, y)) => (μ 1 12 - i).toNat) (fun ((i, F, y)) => (0 ≤ i ∧ i ≤ μ 1 12) ∧ gH k s0 (μ 1 12) i F ∧ y = pairS (fun a b => if eP k s0 (μ 1 12) i a b then 1 else 0) (μ 1 12).toNat) (fun ((i, F, y)) => ot_up (ot_uc μ 48 F) 47 3 y) (fun ((i, F, y)) => [(0, .inr 47), (1, .inl k), (2, .inl s0), (3, .inl i)]) (0, ot_fl (μ 48) 24 0, 0) ⟨by show 0 ≤ (0 : Int) ∧ (0 : Int) ≤ μ 1 12; omega, fun a a1 a2 => by rw [show ot_fl (μ 48) 24 0 a = 0 from wr_in (old := μ 48) (new := fun _ => 0) ⟨a1, a2⟩]; exact ⟨by decide, fun b b1 b2 => by rw [bt_zero, eP_zero a1 (by omega)]⟩, (sumN_zero (fun b b1 b2 => sumN_zero (fun a a1 a2 => by show (if eP k s0 (μ 1 12) 0 a b then 1 else 0) = 0; rw [eP_zero a1 b1]; rfl))).symm⟩ ?_
  intro a hI ih
  obtain ⟨i, F, y⟩ := a
  try dsimp only at hI ih ⊢
  replace hI : (0 ≤ i ∧ i ≤ μ 1 12) ∧ gH k s0 (μ 1 12) i F ∧ y = pairS (fun a b => if eP k s0 (μ 1 12) i a b then 1 else 0) (μ 1 12).toNat := hI
  have hi := hI.1
  have hH := hI.2.1
  have hki : 0 ≤ k * i ∧ k * i ≤ 99 * 24 := ⟨Int.mul_nonneg hk.1 hi.1, Int.mul_le_mul hk.2 (by omega) hi.1 (by omega)⟩
  have hrl := rlf_in (k := k) (s := s0) (i := i) hN.1
  unfold rlf at hrl
  obtain ⟨j, hj⟩ : ∃ j, j = (k * i + s0) % (μ 1 12) := ⟨_, rfl⟩
  rw [← hj] at hrl
  refine tt_iload_n X rfl dX6_draw_15 ?_
  refine tt_aload_n X rfl dX6_draw_16 ?_
  refine tt_getr X fX6_15 (k_47 _ _) (by decide) ⟨nofun, nofun⟩ rfl dX6_draw_17 ?_
  refine tt_geti X fX6_33 (k_1 _ _) (by decide) (Or.inl rfl) dX6_draw_20 ?_
  try simp (disch := decide) only [ot_rd, ot_rs, ot_rf, ot_ucd, ot_ucs]
  refine tt_icmp_ge X 95 (by first | omega | (simp (disch := decide) only [ot_rd, ot_rs, ot_rf, ot_ucd, ot_ucs]; omega)) dX6_draw_23 (by decide) (fun b23 => ?_) (fun b23 => ?_)
  · refine tt_vret X ⟨hr.1, hr.2.1⟩ (by decide) (by decide) dX6_draw_95 ?_
    refine ⟨rfl, F, ?_, ?_⟩
    · have := hI.2.1
      rw [show i = μ 1 12 by omega] at this
      exact this
    · rw [hI.2.2, show i = μ 1 12 by omega]
  · refine tt_iload_n X rfl dX6_draw_26 ?_
    refine tt_iload_n X rfl dX6_draw_27 ?_
    refine tt_imul X dX6_draw_28 ?_
    refine tt_iload_n X rfl dX6_draw_29 ?_
    refine tt_iadd X dX6_draw_30 ?_
    refine tt_aload_n X rfl dX6_draw_31 ?_
    refine tt_getr X fX6_15 (k_47 _ _) (by decide) ⟨nofun, nofun⟩ rfl dX6_draw_32 ?_
    refine tt_geti X fX6_33 (k_1 _ _) (by decide) (Or.inl rfl) dX6_draw_35 ?_
    try simp (disch := decide) only [ot_rd, ot_rs, ot_rf, ot_ucd, ot_ucs]
    refine tt_irem X (by omega) dX6_draw_38 ?_
    refine tt_top ((bo_rem (by omega) (by omega)).trans hj.symm) ?_
    refine tt_istore X dX6_draw_39 (by decide) ?_
    refine tt_iload X rfl dX6_draw_41 ?_
    refine tt_iload_n X rfl dX6_draw_43 ?_
    refine tt_icmp_eq X 89 (by first | omega | (simp (disch := decide) only [ot_rd, ot_rs, ot_rf, ot_ucd, ot_ucs]; omega)) dX6_draw_44 (by decide) (fun b44 => ?_) (fun b44 => ?_)
    · refine tt_iinc X dX6_draw_89 rfl (by decide) ?_
      refine tt_goto X 15 dX6_draw_92 (by decide) ?_
      refine tt_loc [(0, _), (1, _), (2, _), (3, _)] ⟨rfl, rfl, rfl, rfl, trivial⟩ ?_
      have hb1 : i ≠ j → bt (F (min i j)) (max i j) = eP k s0 (μ 1 12) i (min i j) (max i j) := fun w => (hH (min i j) (by omega) (by omega)).2 (max i j) (by omega) (by omega)
      first
        | (have hsm : rlf k s0 (μ 1 12) i = i := by unfold rlf; omega
           refine ih (i + 1, F, y) ⟨by show 0 ≤ i + 1 ∧ i + 1 ≤ μ 1 12; omega, gH_same hH (Or.inl hsm), ?_⟩ (by show (μ 1 12 - (i + 1)).toNat < (μ 1 12 - i).toNat; omega)
           show y = pairS (fun a b => if eP k s0 (μ 1 12) (i + 1) a b then 1 else 0) (μ 1 12).toNat
           rw [hI.2.2]
           exact pairS_congr (fun a b _ _ _ => by rw [eP_same (Or.inl hsm)]))
        | (have hne : i ≠ j := by omega
           have hbt : eP k s0 (μ 1 12) i (min i j) (max i j) = true := by
             rw [← hb1 hne]
             cases w : bt (F (min i j)) (max i j)
             · simp [w] at hz51; omega
             · rfl
           have hsm : eP k s0 (μ 1 12) i i (rlf k s0 (μ 1 12) i) = true := by
             show eP k s0 (μ 1 12) i i ((k * i + s0) % (μ 1 12)) = true
             rw [← hj]
             rcases (show (min i j = i ∧ max i j = j) ∨ (min i j = j ∧ max i j = i) by omega) with w | w
             · rw [w.1, w.2] at hbt; exact hbt
             · rw [w.1, w.2, eP_comm] at hbt; exact hbt
           refine ih (i + 1, F, y) ⟨by show 0 ≤ i + 1 ∧ i + 1 ≤ μ 1 12; omega, gH_same hH (Or.inr hsm), ?_⟩ (by show (μ 1 12 - (i + 1)).toNat < (μ 1 12 - i).toNat; omega)
           show y = pairS (fun a b => if eP k s0 (μ 1 12) (i + 1) a b then 1 else 0) (μ 1 12).toNat
           rw [hI.2.2]
           exact pairS_congr (fun a b _ _ _ => by rw [eP_same (Or.inr hsm)]))
        | (have hne : j ≠ i := by omega
           have hbt : eP k s0 (μ 1 12) i (min i j) (max i j) = false := by
             rw [← hb1 (Ne.symm hne)]
             cases w : bt (F (min i j)) (max i j)
             · rfl
             · simp [w] at hz51; omega
           refine tt_mem (μ' := ot_up (ot_uc μ 48 (up1 F (min i j) (ot_or (F (min i j)) (ot_shl 1 (max i j))))) 47 3 (y + 1)) ?_ ?_
           · funext q c1
             by_cases w1 : q = 47
             · subst w1; by_cases w2 : c1 = 3 <;> simp [ot_up, ot_uc, w2]
             · by_cases w2 : q = 48
               · subst w2; simp [ot_up, ot_uc, up1]
               · simp [ot_up, ot_uc, w1, w2]
           refine ih (i + 1, up1 F (min i j) (ot_or (F (min i j)) (ot_shl 1 (max i j))), y + 1) ⟨by show 0 ≤ i + 1 ∧ i + 1 ≤ μ 1 12; omega, gH_set hN (by omega) hH hj hne, ?_⟩ (by show (μ 1 12 - (i + 1)).toNat < (μ 1 12 - i).toNat; omega)
           show y + 1 = pairS (fun a b => if eP k s0 (μ 1 12) (i + 1) a b then 1 else 0) (μ 1 12).toNat
           rw [hI.2.2, pairS_step hN (by omega) hj hne hbt])
    · refine tt_aload_n X rfl dX6_draw_47 ?_
      refine tt_iload_n X rfl dX6_draw_48 ?_
      refine tt_iload X rfl dX6_draw_49 ?_
      refine tt_vi X rfl mX6_38 (c_hasLine l g ln ext _ _ _ (by omega) (by omega) (by simp (disch := decide) only [ot_ucd, ot_ucs, ot_rd, ot_rs, ot_rf]; exact (hH _ (by omega) (by omega)).1)) (k_47 _ _) ⟨_, rfl, rfl⟩ rfl rfl (Nat.le_of_ble_eq_true rfl) (by decide) (by decide) (by decide) dX6_draw_51 (fun z51 L51 μ51 hp => ?_)
      obtain ⟨rfl, e51, hz51⟩ := hp
      replace e51 := e51.symm
      subst e51
      simp (disch := decide) only [ot_ucd, ot_ucs, ot_rd, ot_rs, ot_rf] at hz51
      try simp (disch := decide) only [ot_rd, ot_rs, ot_rf, ot_ucd, ot_ucs] at hz51
      refine tt_if_ne X 89 (by first | omega | (simp (disch := decide) only [ot_rd, ot_rs, ot_rf, ot_ucd, ot_ucs]; omega)) dX6_draw_54 (by decide) (fun b54 => ?_) (fun b54 => ?_)
      · refine tt_iinc X dX6_draw_89 rfl (by decide) ?_
        refine tt_goto X 15 dX6_draw_92 (by decide) ?_
        refine tt_loc [(0, _), (1, _), (2, _), (3, _)] ⟨rfl, rfl, rfl, rfl, trivial⟩ ?_
        have hb1 : i ≠ j → bt (F (min i j)) (max i j) = eP k s0 (μ 1 12) i (min i j) (max i j) := fun w => (hH (min i j) (by omega) (by omega)).2 (max i j) (by omega) (by omega)
        first
          | (have hsm : rlf k s0 (μ 1 12) i = i := by unfold rlf; omega
             refine ih (i + 1, F, y) ⟨by show 0 ≤ i + 1 ∧ i + 1 ≤ μ 1 12; omega, gH_same hH (Or.inl hsm), ?_⟩ (by show (μ 1 12 - (i + 1)).toNat < (μ 1 12 - i).toNat; omega)
             show y = pairS (fun a b => if eP k s0 (μ 1 12) (i + 1) a b then 1 else 0) (μ 1 12).toNat
             rw [hI.2.2]
             exact pairS_congr (fun a b _ _ _ => by rw [eP_same (Or.inl hsm)]))
          | (have hne : i ≠ j := by omega
             have hbt : eP k s0 (μ 1 12) i (min i j) (max i j) = true := by
               rw [← hb1 hne]
               cases w : bt (F (min i j)) (max i j)
               · simp [w] at hz51; omega
               · rfl
             have hsm : eP k s0 (μ 1 12) i i (rlf k s0 (μ 1 12) i) = true := by
               show eP k s0 (μ 1 12) i i ((k * i + s0) % (μ 1 12)) = true
               rw [← hj]
               rcases (show (min i j = i ∧ max i j = j) ∨ (min i j = j ∧ max i j = i) by omega) with w | w
               · rw [w.1, w.2] at hbt; exact hbt
               · rw [w.1, w.2, eP_comm] at hbt; exact hbt
             refine ih (i + 1, F, y) ⟨by show 0 ≤ i + 1 ∧ i + 1 ≤ μ 1 12; omega, gH_same hH (Or.inr hsm), ?_⟩ (by show (μ 1 12 - (i + 1)).toNat < (μ 1 12 - i).toNat; omega)
             show y = pairS (fun a b => if eP k s0 (μ 1 12) (i + 1) a b then 1 else 0) (μ 1 12).toNat
             rw [hI.2.2]
             exact pairS_congr (fun a b _ _ _ => by rw [eP_same (Or.inr hsm)]))
          | (have hne : j ≠ i := by omega
             have hbt : eP k s0 (μ 1 12) i (min i j) (max i j) = false := by
               rw [← hb1 (Ne.symm hne)]
               cases w : bt (F (min i j)) (max i j)
               · rfl
               · simp [w] at hz51; omega
             refine tt_mem (μ' := ot_up (ot_uc μ 48 (up1 F (min i j) (ot_or (F (min i j)) (ot_shl 1 (max i j))))) 47 3 (y + 1)) ?_ ?_
             · funext q c1
               by_cases w1 : q = 47
               · subst w1; by_cases w2 : c1 = 3 <;> simp [ot_up, ot_uc, w2]
               · by_cases w2 : q = 48
                 · subst w2; simp [ot_up, ot_uc, up1]
                 · simp [ot_up, ot_uc, w1, w2]
             refine ih (i + 1, up1 F (min i j) (ot_or (F (min i j)) (ot_shl 1 (max i j))), y + 1) ⟨by show 0 ≤ i + 1 ∧ i + 1 ≤ μ 1 12; omega, gH_set hN (by omega) hH hj hne, ?_⟩ (by show (μ 1 12 - (i + 1)).toNat < (μ 1 12 - i).toNat; omega)
             show y + 1 = pairS (fun a b => if eP k s0 (μ 1 12) (i + 1) a b then 1 else 0) (μ 1 12).toNat
             rw [hI.2.2, pairS_step hN (by omega) hj hne hbt])
      · refine tt_aload_n X rfl dX6_draw_57 ?_
        refine tt_getr X fX6_9 (k_47 _ _) (by decide) ⟨nofun, nofun⟩ rfl dX6_draw_58 ?_
        refine tt_iload_n X rfl dX6_draw_61 ?_
        refine tt_iload X rfl dX6_draw_62 ?_
        refine tt_min X rfl mX6_42 (by omega) (Nat.le_of_ble_eq_true rfl) (by decide) (by decide) dX6_draw_64 ?_
        refine tt_dup2 X dX6_draw_67 ?_
        refine tt_iaload X (k_48 _ _) (by first | omega | (simp (disch := decide) only [ot_rd, ot_rs, ot_rf, ot_ucd, ot_ucs]; omega)) dX6_draw_68 ?_
        try simp (disch := decide) only [ot_rd, ot_rs, ot_rf, ot_ucd, ot_ucs]
        refine tt_iconst X dX6_draw_69 ?_
        refine tt_iload_n X rfl dX6_draw_70 ?_
        refine tt_iload X rfl dX6_draw_71 ?_
        refine tt_max X rfl mX6_48 (by omega) (Nat.le_of_ble_eq_true rfl) (by decide) (by decide) dX6_draw_73 ?_
        refine tt_ishl X dX6_draw_76 ?_
        refine tt_ior X dX6_draw_77 ?_
        refine tt_iastore X (k_48 _ _) (by first | omega | (simp (disch := decide) only [ot_rd, ot_rs, ot_rf, ot_ucd, ot_ucs]; omega)) dX6_draw_78 ?_
        refine tt_aload_n X rfl dX6_draw_79 ?_
        refine tt_dup X dX6_draw_80 ?_
        refine tt_geti X fX6_29 (k_47 _ _) (by decide) (Or.inl rfl) dX6_draw_81 ?_
        try simp (disch := decide) only [ot_rd, ot_rs, ot_rf, ot_ucd, ot_ucs]
        refine tt_iconst X dX6_draw_84 ?_
        refine tt_iadd X dX6_draw_85 ?_
        refine tt_puti X fX6_29 kc_6 (k_47 _ _) (by decide) (fun q hq => by cases hq; rfl) rfl dX6_draw_86 ?_
        refine tt_iinc X dX6_draw_89 rfl (by decide) ?_
        refine tt_goto X 15 dX6_draw_92 (by decide) ?_
        refine tt_loc [(0, _), (1, _), (2, _), (3, _)] ⟨rfl, rfl, rfl, rfl, trivial⟩ ?_
        have hb1 : i ≠ j → bt (F (min i j)) (max i j) = eP k s0 (μ 1 12) i (min i j) (max i j) := fun w => (hH (min i j) (by omega) (by omega)).2 (max i j) (by omega) (by omega)
        first
          | (have hsm : rlf k s0 (μ 1 12) i = i := by unfold rlf; omega
             refine ih (i + 1, F, y) ⟨by show 0 ≤ i + 1 ∧ i + 1 ≤ μ 1 12; omega, gH_same hH (Or.inl hsm), ?_⟩ (by show (μ 1 12 - (i + 1)).toNat < (μ 1 12 - i).toNat; omega)
             show y = pairS (fun a b => if eP k s0 (μ 1 12) (i + 1) a b then 1 else 0) (μ 1 12).toNat
             rw [hI.2.2]
             exact pairS_congr (fun a b _ _ _ => by rw [eP_same (Or.inl hsm)]))
          | (have hne : i ≠ j := by omega
             have hbt : eP k s0 (μ 1 12) i (min i j) (max i j) = true := by
               rw [← hb1 hne]
               cases w : bt (F (min i j)) (max i j)
               · simp [w] at hz51; omega
               · rfl
             have hsm : eP k s0 (μ 1 12) i i (rlf k s0 (μ 1 12) i) = true := by
               show eP k s0 (μ 1 12) i i ((k * i + s0) % (μ 1 12)) = true
               rw [← hj]
               rcases (show (min i j = i ∧ max i j = j) ∨ (min i j = j ∧ max i j = i) by omega) with w | w
               · rw [w.1, w.2] at hbt; exact hbt
               · rw [w.1, w.2, eP_comm] at hbt; exact hbt
             refine ih (i + 1, F, y) ⟨by show 0 ≤ i + 1 ∧ i + 1 ≤ μ 1 12; omega, gH_same hH (Or.inr hsm), ?_⟩ (by show (μ 1 12 - (i + 1)).toNat < (μ 1 12 - i).toNat; omega)
             show y = pairS (fun a b => if eP k s0 (μ 1 12) (i + 1) a b then 1 else 0) (μ 1 12).toNat
             rw [hI.2.2]
             exact pairS_congr (fun a b _ _ _ => by rw [eP_same (Or.inr hsm)]))
          | (have hne : j ≠ i := by omega
             have hbt : eP k s0 (μ 1 12) i (min i j) (max i j) = false := by
               rw [← hb1 (Ne.symm hne)]
               cases w : bt (F (min i j)) (max i j)
               · rfl
               · simp [w] at hz51; omega
             refine tt_mem (μ' := ot_up (ot_uc μ 48 (up1 F (min i j) (ot_or (F (min i j)) (ot_shl 1 (max i j))))) 47 3 (y + 1)) ?_ ?_
             · funext q c1
               by_cases w1 : q = 47
               · subst w1; by_cases w2 : c1 = 3 <;> simp [ot_up, ot_uc, w2]
               · by_cases w2 : q = 48
                 · subst w2; simp [ot_up, ot_uc, up1]
                 · simp [ot_up, ot_uc, w1, w2]
             refine ih (i + 1, up1 F (min i j) (ot_or (F (min i j)) (ot_shl 1 (max i j))), y + 1) ⟨by show 0 ≤ i + 1 ∧ i + 1 ≤ μ 1 12; omega, gH_set hN (by omega) hH hj hne, ?_⟩ (by show (μ 1 12 - (i + 1)).toNat < (μ 1 12 - i).toNat; omega)
             show y + 1 = pairS (fun a b => if eP k s0 (μ 1 12) (i + 1) a b then 1 else 0) (μ 1 12).toNat
             rw [hI.2.2, pairS_step hN (by omega) hj hne hbt])

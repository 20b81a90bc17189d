/-- without -/
def anN (a b : Nat) : Nat := a ^^^ (a &&& b)
theorem tb_an (a b i : Nat) : (anN a b).testBit i = (a.testBit i && !b.testBit i) := by
  unfold anN
  rw [Nat.testBit_xor, Nat.testBit_and]
  cases a.testBit i <;> cases b.testBit i <;> rfl
theorem an_lt {a b n : Nat} (h : a < 2 ^ n) : anN a b < 2 ^ n := Nat.xor_lt_two_pow h (Nat.lt_of_le_of_lt Nat.and_le_left h)
theorem bn_an (a b : Nat) : nI a &&& (nI b ^^^ Int32.ofInt (-1)) = nI (anN a b) := by
  apply Int32.toBitVec_inj.1
  show BitVec.ofNat 32 a &&& (BitVec.ofNat 32 b ^^^ BitVec.ofInt 32 (-1)) = BitVec.ofNat 32 (anN a b)
  apply BitVec.eq_of_getLsbD_eq
  intro i hi
  rw [show BitVec.ofInt 32 (-1) = BitVec.allOnes 32 by decide]
  rw [BitVec.getLsbD_and, BitVec.getLsbD_xor, BitVec.getLsbD_ofNat, BitVec.getLsbD_ofNat, BitVec.getLsbD_ofNat, BitVec.getLsbD_allOnes, tb_an]
  simp [hi]
theorem bo_an {a b : Nat} (ha : a < 2147483648) (hb : b < 2147483648) : ot_and (a : Int) (ot_xor (b : Int) (-1)) = (anN a b : Int) := by
  have e : Int32.ofInt (ot_xor (b : Int) (-1)) = nI b ^^^ Int32.ofInt (-1) := by
    unfold ot_xor
    rw [bb_nat]
    exact Int32.ofInt_toInt _
  unfold ot_and
  rw [e, bb_nat, bn_an, bb_nI (an_lt (n := 31) ha)]
theorem pop_cnt {m : Nat} (hm : m < 16777216) : pop (m : Int) = (cnt m 24 : Int) := by
  have h : ∀ n, sumN (fun j => if bt (m : Int) j then 1 else 0) n = (cnt m n : Int) := by
    intro n
    induction n with
    | zero => rfl
    | succ n ih =>
      rw [sumN_succ, ih]
      show (cnt m n : Int) + (if bt (m : Int) (n : Int) then 1 else 0) = ((cnt m n + (if m.testBit n then 1 else 0) : Nat) : Int)
      unfold bt
      rw [Int.toNat_natCast, Int.toNat_natCast]
      cases m.testBit n <;> simp
  unfold pop
  rw [h 31, cnt_more (k := 24) hm 31 (by omega)]
theorem pinN_lt {A B : Nat → Nat} {M S : Nat} (hw : wfL A B M) : ∀ n, n ≤ M → pinN A B S n < 16777216
  | 0, _ => by show 0 < 16777216; decide
  | n + 1, h => by
    have ih := pinN_lt (S := S) hw n (by omega)
    have h1 := hw.1 n (by omega)
    show (if S.testBit n then pinN A B S n ||| 2 ^ A n ||| 2 ^ B n else pinN A B S n) < 2 ^ 24
    split
    · exact Nat.or_lt_two_pow (Nat.or_lt_two_pow ih (p_lt h1.1)) (p_lt h1.2.1)
    · exact ih
theorem rcI_lt {A B : Nat → Nat} {M S a : Nat} (hw : wfL A B M) (ha : a < 16777216) : ∀ n, n ≤ M → rcI A B S a n < 16777216
  | 0, _ => ha
  | n + 1, h => by
    have ih := rcI_lt (S := S) hw ha n (by omega)
    have h1 := hw.1 n (by omega)
    show (if _ then rcI A B S a n ||| (2 ^ A n ||| 2 ^ B n) else rcI A B S a n) < 2 ^ 24
    split
    · exact Nat.or_lt_two_pow ih (Nat.or_lt_two_pow (p_lt h1.1) (p_lt h1.2.1))
    · exact ih
theorem rcN_lt {A B : Nat → Nat} {M S a : Nat} (hw : wfL A B M) (ha : a < 16777216) : ∀ n, rcN A B S M a n < 16777216
  | 0 => ha
  | n + 1 => rcI_lt hw (rcN_lt hw ha n) M (Nat.le_refl _)
theorem and_ends {x a b : Nat} : x &&& (2 ^ a ||| 2 ^ b) = 0 ↔ ¬ (x.testBit a = true ∨ x.testBit b = true) := by
  constructor
  · intro h w
    rcases w with w | w
    · have : (x &&& (2 ^ a ||| 2 ^ b)).testBit a = true := by rw [Nat.testBit_and, w, tb_o, tb_p]; simp
      rw [h, Nat.zero_testBit] at this
      cases this
    · have : (x &&& (2 ^ a ||| 2 ^ b)).testBit b = true := by rw [Nat.testBit_and, w, tb_o, tb_p]; simp
      rw [h, Nat.zero_testBit] at this
      cases this
  · intro h
    refine Nat.eq_of_testBit_eq (fun i => ?_)
    rw [Nat.testBit_and, tb_o, tb_p, Nat.zero_testBit, Bool.eq_false_iff]
    intro w
    simp only [Bool.and_eq_true, Bool.or_eq_true, decide_eq_true_eq] at w
    apply h
    rcases w.2 with e | e
    · exact .inl (e ▸ w.1)
    · exact .inr (e ▸ w.1)
set_option maxRecDepth 100000 in
set_option maxHeartbeats 1000000 in
theorem q_oddOf (l : Launch) (g : ot_G) (ln : Nat) (ext : ot_L) (μ : ot_M) (S : Nat) (hS : S < 1048576) (hN : gNet (μ 60 11) (μ 69) (μ 70))  : ot_C l g yX10_oddOf cX10_oddOf 4 (some .int) 0 0 0 [.inr 60, .inl (S : Int)] (LL ln ext) μ (ot_pi (fun r L2 μ2 => L2 = LL ln ext ∧ μ2 = μ ∧ r = (oddN (nA (μ 69)) (nA (μ 70)) S (μ 60 11).toNat : Int))) := by
  refine ot_enter (by decide) (Nat.le_of_ble_eq_true rfl) ?_
  intro p e s m args below meth c X hr
  have hM := hN.1
  have hw := hN.2.2
  refine tt_iconst X dX10_oddOf_0 ?_
  refine tt_istore_n X dX10_oddOf_1 (by decide) ?_
  refine tt_iconst X dX10_oddOf_2 ?_
  refine tt_istore_n X dX10_oddOf_3 (by decide) ?_
  refine tt_loc [(0, _), (1, _), (2, _), (3, _)] ⟨rfl, rfl, rfl, rfl, trivial⟩ ?_
  refine tt_loop (α := Nat × Nat) (fun ((i, x)) => (μ 60 11).toNat - i) (fun ((i, x)) => (i : Int) ≤ μ 60 11 ∧ x = oddN (nA (μ 69)) (nA (μ 70)) S i ∧ x < 16777216) (fun ((i, x)) => μ) (fun ((i, x)) => [(0, .inr 60), (1, .inl (S : Int)), (2, .inl (x : Int)), (3, .inl (i : Int))]) (0, 0) ⟨by show ((0 : Nat) : Int) ≤ _; omega, rfl, by show 0 < 16777216; decide⟩ ?_
  intro a hI ih
  obtain ⟨i, x⟩ := a
  try dsimp only at hI ih ⊢
  replace hI : (i : Int) ≤ μ 60 11 ∧ x = oddN (nA (μ 69)) (nA (μ 70)) S i ∧ x < 16777216 := hI
  have hi := hI.1
  have hxl := hI.2.2
  refine tt_iload_n X rfl dX10_oddOf_4 ?_
  refine tt_aload_n X rfl dX10_oddOf_5 ?_
  refine tt_geti X fX10_108 (k_60 _ _) (by decide) (Or.inl rfl) dX10_oddOf_6 ?_
  try simp (disch := decide) only [ot_rd, ot_rs, ot_rf, ot_ucd, ot_ucs]
  refine tt_icmp_ge X 47 (by first | omega | (simp (disch := decide) only [ot_rd, ot_rs, ot_rf, ot_ucd, ot_ucs]; omega)) dX10_oddOf_9 (by decide) (fun b9 => ?_) (fun b9 => ?_)
  · refine tt_iload_n X rfl dX10_oddOf_47 ?_
    refine tt_iret X ⟨hr.1, hr.2.1⟩ (by decide) (by decide) dX10_oddOf_48 ?_
    refine ⟨rfl, rfl, ?_⟩
    rw [hI.2.1, show i = (μ 60 11).toNat by omega]
  · refine tt_iload_n X rfl dX10_oddOf_12 ?_
    refine tt_iload_n X rfl dX10_oddOf_13 ?_
    refine tt_ishr X dX10_oddOf_14 ?_
    refine tt_iconst X dX10_oddOf_15 ?_
    refine tt_iand X dX10_oddOf_16 ?_
    refine tt_top (nt_test (m := S) (i := i) (by omega) (by omega)) ?_
    refine tt_iconst X dX10_oddOf_17 ?_
    refine tt_icmp_ne X 41 (by split <;> omega) dX10_oddOf_18 (by decide) (fun b18 => ?_) (fun b18 => ?_)
    · refine tt_iinc X dX10_oddOf_41 rfl (by decide) ?_
      refine tt_goto X 4 dX10_oddOf_44 (by decide) ?_
      refine tt_loc [(0, _), (1, _), (2, _), (3, _)] ⟨rfl, rfl, rfl, rfl, trivial⟩ ?_
      first
        | (have hb := tb_one (m := S) (i := i) (by omega)
           exact ih (i + 1, x ^^^ 2 ^ (nA (μ 69)) i ^^^ 2 ^ (nA (μ 70)) i) ⟨by show ((i + 1 : Nat) : Int) ≤ _; omega, by show _ = (if S.testBit i then oddN (nA (μ 69)) (nA (μ 70)) S i ^^^ 2 ^ (nA (μ 69)) i ^^^ 2 ^ (nA (μ 70)) i else oddN (nA (μ 69)) (nA (μ 70)) S i); rw [if_pos hb, hI.2.1], hx2⟩ (by show (μ 60 11).toNat - (i + 1) < (μ 60 11).toNat - i; omega))
        | (have hb := tb_nil (m := S) (i := i) (by omega)
           exact ih (i + 1, x) ⟨by show ((i + 1 : Nat) : Int) ≤ _; omega, by show _ = (if S.testBit i then oddN (nA (μ 69)) (nA (μ 70)) S i ^^^ 2 ^ (nA (μ 69)) i ^^^ 2 ^ (nA (μ 70)) i else oddN (nA (μ 69)) (nA (μ 70)) S i); rw [hb, hI.2.1]; rfl, hI.2.2⟩ (by show (μ 60 11).toNat - (i + 1) < (μ 60 11).toNat - i; omega))
    · have hA := nA_eq hN (l := i) (by omega)
      have pa := nt_p hA.2.2.1
      have pb := nt_p hA.2.2.2.1
      have hx1 : x ^^^ 2 ^ (nA (μ 69)) i < 16777216 := Nat.xor_lt_two_pow (n := 24) hxl pa
      have hx2 : x ^^^ 2 ^ (nA (μ 69)) i ^^^ 2 ^ (nA (μ 70)) i < 16777216 := Nat.xor_lt_two_pow (n := 24) hx1 pb
      refine tt_iload_n X rfl dX10_oddOf_21 ?_
      refine tt_iconst X dX10_oddOf_22 ?_
      refine tt_aload_n X rfl dX10_oddOf_23 ?_
      refine tt_getr X fX10_38 (k_60 _ _) (by decide) ⟨nofun, nofun⟩ rfl dX10_oddOf_24 ?_
      refine tt_iload_n X rfl dX10_oddOf_27 ?_
      refine tt_iaload X (k_69 _ _) (by first | omega | (simp (disch := decide) only [ot_rd, ot_rs, ot_rf, ot_ucd, ot_ucs]; omega)) dX10_oddOf_28 ?_
      try simp (disch := decide) only [ot_rd, ot_rs, ot_rf, ot_ucd, ot_ucs]
      refine tt_ishl X dX10_oddOf_29 ?_
      refine tt_top (y := ((2 ^ (nA (μ 69)) i : Nat) : Int)) (by rw [hA.1, nt_shl hA.2.2.1]) ?_
      refine tt_ixor X dX10_oddOf_30 ?_
      refine tt_top (bo_xor _ _ (by omega) (by omega)) ?_
      refine tt_iconst X dX10_oddOf_31 ?_
      refine tt_aload_n X rfl dX10_oddOf_32 ?_
      refine tt_getr X fX10_41 (k_60 _ _) (by decide) ⟨nofun, nofun⟩ rfl dX10_oddOf_33 ?_
      refine tt_iload_n X rfl dX10_oddOf_36 ?_
      refine tt_iaload X (k_70 _ _) (by first | omega | (simp (disch := decide) only [ot_rd, ot_rs, ot_rf, ot_ucd, ot_ucs]; omega)) dX10_oddOf_37 ?_
      try simp (disch := decide) only [ot_rd, ot_rs, ot_rf, ot_ucd, ot_ucs]
      refine tt_ishl X dX10_oddOf_38 ?_
      refine tt_top (y := ((2 ^ (nA (μ 70)) i : Nat) : Int)) (by rw [hA.2.1, nt_shl hA.2.2.2.1]) ?_
      refine tt_ixor X dX10_oddOf_39 ?_
      refine tt_top (bo_xor _ _ (by omega) (by omega)) ?_
      refine tt_istore_n X dX10_oddOf_40 (by decide) ?_
      refine tt_iinc X dX10_oddOf_41 rfl (by decide) ?_
      refine tt_goto X 4 dX10_oddOf_44 (by decide) ?_
      refine tt_loc [(0, _), (1, _), (2, _), (3, _)] ⟨rfl, rfl, rfl, rfl, trivial⟩ ?_
      first
        | (have hb := tb_one (m := S) (i := i) (by omega)
           exact ih (i + 1, x ^^^ 2 ^ (nA (μ 69)) i ^^^ 2 ^ (nA (μ 70)) i) ⟨by show ((i + 1 : Nat) : Int) ≤ _; omega, by show _ = (if S.testBit i then oddN (nA (μ 69)) (nA (μ 70)) S i ^^^ 2 ^ (nA (μ 69)) i ^^^ 2 ^ (nA (μ 70)) i else oddN (nA (μ 69)) (nA (μ 70)) S i); rw [if_pos hb, hI.2.1], hx2⟩ (by show (μ 60 11).toNat - (i + 1) < (μ 60 11).toNat - i; omega))
        | (have hb := tb_nil (m := S) (i := i) (by omega)
           exact ih (i + 1, x) ⟨by show ((i + 1 : Nat) : Int) ≤ _; omega, by show _ = (if S.testBit i then oddN (nA (μ 69)) (nA (μ 70)) S i ^^^ 2 ^ (nA (μ 69)) i ^^^ 2 ^ (nA (μ 70)) i else oddN (nA (μ 69)) (nA (μ 70)) S i); rw [hb, hI.2.1]; rfl, hI.2.2⟩ (by show (μ 60 11).toNat - (i + 1) < (μ 60 11).toNat - i; omega))
set_option maxRecDepth 100000 in
set_option maxHeartbeats 1000000 in
theorem q_pinsOf (l : Launch) (g : ot_G) (ln : Nat) (ext : ot_L) (μ : ot_M) (S : Nat) (hS : S < 1048576) (hN : gNet (μ 60 11) (μ 69) (μ 70))  : ot_C l g yX10_pinsOf cX10_pinsOf 4 (some .int) 0 0 0 [.inr 60, .inl (S : Int)] (LL ln ext) μ (ot_pi (fun r L2 μ2 => L2 = LL ln ext ∧ μ2 = μ ∧ r = (pinN (nA (μ 69)) (nA (μ 70)) S (μ 60 11).toNat : Int))) := by
  refine ot_enter (by decide) (Nat.le_of_ble_eq_true rfl) ?_
  intro p e s m args below meth c X hr
  have hM := hN.1
  have hw := hN.2.2
  refine tt_iconst X dX10_pinsOf_0 ?_
  refine tt_istore_n X dX10_pinsOf_1 (by decide) ?_
  refine tt_iconst X dX10_pinsOf_2 ?_
  refine tt_istore_n X dX10_pinsOf_3 (by decide) ?_
  refine tt_loc [(0, _), (1, _), (2, _), (3, _)] ⟨rfl, rfl, rfl, rfl, trivial⟩ ?_
  refine tt_loop (α := Nat × Nat) (fun ((i, x)) => (μ 60 11).toNat - i) (fun ((i, x)) => (i : Int) ≤ μ 60 11 ∧ x = pinN (nA (μ 69)) (nA (μ 70)) S i ∧ x < 16777216) (fun ((i, x)) => μ) (fun ((i, x)) => [(0, .inr 60), (1, .inl (S : Int)), (2, .inl (x : Int)), (3, .inl (i : Int))]) (0, 0) ⟨by show ((0 : Nat) : Int) ≤ _; omega, rfl, by show 0 < 16777216; decide⟩ ?_
  intro a hI ih
  obtain ⟨i, x⟩ := a
  try dsimp only at hI ih ⊢
  replace hI : (i : Int) ≤ μ 60 11 ∧ x = pinN (nA (μ 69)) (nA (μ 70)) S i ∧ x < 16777216 := hI
  have hi := hI.1
  have hxl := hI.2.2
  refine tt_iload_n X rfl dX10_pinsOf_4 ?_
  refine tt_aload_n X rfl dX10_pinsOf_5 ?_
  refine tt_geti X fX10_108 (k_60 _ _) (by decide) (Or.inl rfl) dX10_pinsOf_6 ?_
  try simp (disch := decide) only [ot_rd, ot_rs, ot_rf, ot_ucd, ot_ucs]
  refine tt_icmp_ge X 47 (by first | omega | (simp (disch := decide) only [ot_rd, ot_rs, ot_rf, ot_ucd, ot_ucs]; omega)) dX10_pinsOf_9 (by decide) (fun b9 => ?_) (fun b9 => ?_)
  · refine tt_iload_n X rfl dX10_pinsOf_47 ?_
    refine tt_iret X ⟨hr.1, hr.2.1⟩ (by decide) (by decide) dX10_pinsOf_48 ?_
    refine ⟨rfl, rfl, ?_⟩
    rw [hI.2.1, show i = (μ 60 11).toNat by omega]
  · refine tt_iload_n X rfl dX10_pinsOf_12 ?_
    refine tt_iload_n X rfl dX10_pinsOf_13 ?_
    refine tt_ishr X dX10_pinsOf_14 ?_
    refine tt_iconst X dX10_pinsOf_15 ?_
    refine tt_iand X dX10_pinsOf_16 ?_
    refine tt_top (nt_test (m := S) (i := i) (by omega) (by omega)) ?_
    refine tt_iconst X dX10_pinsOf_17 ?_
    refine tt_icmp_ne X 41 (by split <;> omega) dX10_pinsOf_18 (by decide) (fun b18 => ?_) (fun b18 => ?_)
    · refine tt_iinc X dX10_pinsOf_41 rfl (by decide) ?_
      refine tt_goto X 4 dX10_pinsOf_44 (by decide) ?_
      refine tt_loc [(0, _), (1, _), (2, _), (3, _)] ⟨rfl, rfl, rfl, rfl, trivial⟩ ?_
      first
        | (have hb := tb_one (m := S) (i := i) (by omega)
           exact ih (i + 1, x ||| 2 ^ (nA (μ 69)) i ||| 2 ^ (nA (μ 70)) i) ⟨by show ((i + 1 : Nat) : Int) ≤ _; omega, by show _ = (if S.testBit i then pinN (nA (μ 69)) (nA (μ 70)) S i ||| 2 ^ (nA (μ 69)) i ||| 2 ^ (nA (μ 70)) i else pinN (nA (μ 69)) (nA (μ 70)) S i); rw [if_pos hb, hI.2.1], hx2⟩ (by show (μ 60 11).toNat - (i + 1) < (μ 60 11).toNat - i; omega))
        | (have hb := tb_nil (m := S) (i := i) (by omega)
           exact ih (i + 1, x) ⟨by show ((i + 1 : Nat) : Int) ≤ _; omega, by show _ = (if S.testBit i then pinN (nA (μ 69)) (nA (μ 70)) S i ||| 2 ^ (nA (μ 69)) i ||| 2 ^ (nA (μ 70)) i else pinN (nA (μ 69)) (nA (μ 70)) S i); rw [hb, hI.2.1]; rfl, hI.2.2⟩ (by show (μ 60 11).toNat - (i + 1) < (μ 60 11).toNat - i; omega))
    · have hA := nA_eq hN (l := i) (by omega)
      have pa := nt_p hA.2.2.1
      have pb := nt_p hA.2.2.2.1
      have hx1 : x ||| 2 ^ (nA (μ 69)) i < 16777216 := Nat.or_lt_two_pow (n := 24) hxl pa
      have hx2 : x ||| 2 ^ (nA (μ 69)) i ||| 2 ^ (nA (μ 70)) i < 16777216 := Nat.or_lt_two_pow (n := 24) hx1 pb
      refine tt_iload_n X rfl dX10_pinsOf_21 ?_
      refine tt_iconst X dX10_pinsOf_22 ?_
      refine tt_aload_n X rfl dX10_pinsOf_23 ?_
      refine tt_getr X fX10_38 (k_60 _ _) (by decide) ⟨nofun, nofun⟩ rfl dX10_pinsOf_24 ?_
      refine tt_iload_n X rfl dX10_pinsOf_27 ?_
      refine tt_iaload X (k_69 _ _) (by first | omega | (simp (disch := decide) only [ot_rd, ot_rs, ot_rf, ot_ucd, ot_ucs]; omega)) dX10_pinsOf_28 ?_
      try simp (disch := decide) only [ot_rd, ot_rs, ot_rf, ot_ucd, ot_ucs]
      refine tt_ishl X dX10_pinsOf_29 ?_
      refine tt_top (y := ((2 ^ (nA (μ 69)) i : Nat) : Int)) (by rw [hA.1, nt_shl hA.2.2.1]) ?_
      refine tt_ior X dX10_pinsOf_30 ?_
      refine tt_top (bo_or _ _ (by omega) (by omega)) ?_
      refine tt_iconst X dX10_pinsOf_31 ?_
      refine tt_aload_n X rfl dX10_pinsOf_32 ?_
      refine tt_getr X fX10_41 (k_60 _ _) (by decide) ⟨nofun, nofun⟩ rfl dX10_pinsOf_33 ?_
      refine tt_iload_n X rfl dX10_pinsOf_36 ?_
      refine tt_iaload X (k_70 _ _) (by first | omega | (simp (disch := decide) only [ot_rd, ot_rs, ot_rf, ot_ucd, ot_ucs]; omega)) dX10_pinsOf_37 ?_
      try simp (disch := decide) only [ot_rd, ot_rs, ot_rf, ot_ucd, ot_ucs]
      refine tt_ishl X dX10_pinsOf_38 ?_
      refine tt_top (y := ((2 ^ (nA (μ 70)) i : Nat) : Int)) (by rw [hA.2.1, nt_shl hA.2.2.2.1]) ?_
      refine tt_ior X dX10_pinsOf_39 ?_
      refine tt_top (bo_or _ _ (by omega) (by omega)) ?_
      refine tt_istore_n X dX10_pinsOf_40 (by decide) ?_
      refine tt_iinc X dX10_pinsOf_41 rfl (by decide) ?_
      refine tt_goto X 4 dX10_pinsOf_44 (by decide) ?_
      refine tt_loc [(0, _), (1, _), (2, _), (3, _)] ⟨rfl, rfl, rfl, rfl, trivial⟩ ?_
      first
        | (have hb := tb_one (m := S) (i := i) (by omega)
           exact ih (i + 1, x ||| 2 ^ (nA (μ 69)) i ||| 2 ^ (nA (μ 70)) i) ⟨by show ((i + 1 : Nat) : Int) ≤ _; omega, by show _ = (if S.testBit i then pinN (nA (μ 69)) (nA (μ 70)) S i ||| 2 ^ (nA (μ 69)) i ||| 2 ^ (nA (μ 70)) i else pinN (nA (μ 69)) (nA (μ 70)) S i); rw [if_pos hb, hI.2.1], hx2⟩ (by show (μ 60 11).toNat - (i + 1) < (μ 60 11).toNat - i; omega))
        | (have hb := tb_nil (m := S) (i := i) (by omega)
           exact ih (i + 1, x) ⟨by show ((i + 1 : Nat) : Int) ≤ _; omega, by show _ = (if S.testBit i then pinN (nA (μ 69)) (nA (μ 70)) S i ||| 2 ^ (nA (μ 69)) i ||| 2 ^ (nA (μ 70)) i else pinN (nA (μ 69)) (nA (μ 70)) S i); rw [hb, hI.2.1]; rfl, hI.2.2⟩ (by show (μ 60 11).toNat - (i + 1) < (μ 60 11).toNat - i; omega))
set_option maxRecDepth 100000 in
set_option maxHeartbeats 1000000 in
theorem q_reachedFrom (l : Launch) (g : ot_G) (ln : Nat) (ext : ot_L) (μ : ot_M) (a0 : Nat) (ha0 : a0 < 16777216) (S : Nat) (hS : S < 1048576) (hN : gNet (μ 60 11) (μ 69) (μ 70))  : ot_C l g yX10_reachedFrom cX10_reachedFrom 7 (some .int) 0 0 0 [.inr 60, .inl (a0 : Int), .inl (S : Int)] (LL ln ext) μ (ot_pi (fun r L2 μ2 => L2 = LL ln ext ∧ μ2 = μ ∧ r = (rcN (nA (μ 69)) (nA (μ 70)) S (μ 60 11).toNat a0 (μ 60 11).toNat : Int))) := by
  refine ot_enter (by decide) (Nat.le_of_ble_eq_true rfl) ?_
  intro p e s m args below meth c X hr
  have hM := hN.1
  have hw := hN.2.2
  refine tt_iload_n X rfl dX10_reachedFrom_0 ?_
  refine tt_istore_n X dX10_reachedFrom_1 (by decide) ?_
  refine tt_iconst X dX10_reachedFrom_2 ?_
  refine tt_istore X dX10_reachedFrom_3 (by decide) ?_
  refine tt_loc [(0, _), (1, _), (2, _), (3, _), (4, _)] ⟨rfl, rfl, rfl, rfl, rfl, trivial⟩ ?_
  refine tt_loop (α := Nat × Nat) (fun ((k, x)) => (μ 60 11).toNat - k) (fun ((k, x)) => (k : Int) ≤ μ 60 11 ∧ x = rcN (nA (μ 69)) (nA (μ 70)) S (μ 60 11).toNat a0 k) (fun ((k, x)) => μ) (fun ((k, x)) => [(0, .inr 60), (1, .inl (a0 : Int)), (2, .inl (S : Int)), (3, .inl (x : Int)), (4, .inl (k : Int))]) (0, a0) ⟨by show ((0 : Nat) : Int) ≤ _; omega, rfl⟩ ?_
  intro a hI ih
  obtain ⟨k, x⟩ := a
  try dsimp only at hI ih ⊢
  replace hI : (k : Int) ≤ μ 60 11 ∧ x = rcN (nA (μ 69)) (nA (μ 70)) S (μ 60 11).toNat a0 k := hI
  have hk := hI.1
  have hxl : x < 16777216 := by rw [hI.2]; exact rcN_lt hw ha0 k
  refine tt_iload X rfl dX10_reachedFrom_5 ?_
  refine tt_aload_n X rfl dX10_reachedFrom_7 ?_
  refine tt_geti X fX10_108 (k_60 _ _) (by decide) (Or.inl rfl) dX10_reachedFrom_8 ?_
  try simp (disch := decide) only [ot_rd, ot_rs, ot_rf, ot_ucd, ot_ucs]
  refine tt_icmp_ge X 81 (by first | omega | (simp (disch := decide) only [ot_rd, ot_rs, ot_rf, ot_ucd, ot_ucs]; omega)) dX10_reachedFrom_11 (by decide) (fun b11 => ?_) (fun b11 => ?_)
  · refine tt_iload_n X rfl dX10_reachedFrom_81 ?_
    refine tt_iret X ⟨hr.1, hr.2.1⟩ (by decide) (by decide) dX10_reachedFrom_82 ?_
    refine ⟨rfl, rfl, ?_⟩
    rw [hI.2, show k = (μ 60 11).toNat by omega]
  · refine tt_iconst X dX10_reachedFrom_14 ?_
    refine tt_istore X dX10_reachedFrom_15 (by decide) ?_
    refine tt_loc [(0, _), (1, _), (2, _), (3, _), (4, _), (5, _)] ⟨rfl, rfl, rfl, rfl, rfl, rfl, trivial⟩ ?_
    refine tt_loop (α := Nat × Nat) (fun ((i, x2)) => (μ 60 11).toNat - i) (fun ((i, x2)) => (i : Int) ≤ μ 60 11 ∧ x2 = rcI (nA (μ 69)) (nA (μ 70)) S x i) (fun ((i, x2)) => μ) (fun ((i, x2)) => [(0, .inr 60), (1, .inl (a0 : Int)), (2, .inl (S : Int)), (3, .inl (x2 : Int)), (4, .inl (k : Int)), (5, .inl (i : Int))]) (0, x) ⟨by show ((0 : Nat) : Int) ≤ _; omega, rfl⟩ ?_
    intro a hI2 ih2
    obtain ⟨i, x2⟩ := a
    try dsimp only at hI2 ih2 ⊢
    replace hI2 : (i : Int) ≤ μ 60 11 ∧ x2 = rcI (nA (μ 69)) (nA (μ 70)) S x i := hI2
    have hi := hI2.1
    have hx2 : x2 < 16777216 := by rw [hI2.2]; exact rcI_lt hw hxl i (by omega)
    refine tt_iload X rfl dX10_reachedFrom_17 ?_
    refine tt_aload_n X rfl dX10_reachedFrom_19 ?_
    refine tt_geti X fX10_108 (k_60 _ _) (by decide) (Or.inl rfl) dX10_reachedFrom_20 ?_
    try simp (disch := decide) only [ot_rd, ot_rs, ot_rf, ot_ucd, ot_ucs]
    refine tt_icmp_ge X 75 (by first | omega | (simp (disch := decide) only [ot_rd, ot_rs, ot_rf, ot_ucd, ot_ucs]; omega)) dX10_reachedFrom_23 (by decide) (fun b23 => ?_) (fun b23 => ?_)
    · refine tt_iinc X dX10_reachedFrom_75 rfl (by decide) ?_
      refine tt_goto X 5 dX10_reachedFrom_78 (by decide) ?_
      refine tt_loc [(0, _), (1, _), (2, _), (3, _), (4, _)] ⟨rfl, rfl, rfl, rfl, rfl, trivial⟩ ?_
      have hie : i = (μ 60 11).toNat := by omega
      exact ih (k + 1, x2) ⟨by show ((k + 1 : Nat) : Int) ≤ _; omega, by show x2 = rcI (nA (μ 69)) (nA (μ 70)) S (rcN (nA (μ 69)) (nA (μ 70)) S (μ 60 11).toNat a0 k) (μ 60 11).toNat; rw [← hI.2, hI2.2, hie]⟩ (by show (μ 60 11).toNat - (k + 1) < (μ 60 11).toNat - k; omega)
    · refine tt_iconst X dX10_reachedFrom_26 ?_
      refine tt_aload_n X rfl dX10_reachedFrom_27 ?_
      refine tt_getr X fX10_38 (k_60 _ _) (by decide) ⟨nofun, nofun⟩ rfl dX10_reachedFrom_28 ?_
      refine tt_iload X rfl dX10_reachedFrom_31 ?_
      have hA := nA_eq hN (l := i) (by omega)
      have pa := nt_p hA.2.2.1
      have pb := nt_p hA.2.2.2.1
      refine tt_iaload X (k_69 _ _) (by first | omega | (simp (disch := decide) only [ot_rd, ot_rs, ot_rf, ot_ucd, ot_ucs]; omega)) dX10_reachedFrom_33 ?_
      try simp (disch := decide) only [ot_rd, ot_rs, ot_rf, ot_ucd, ot_ucs]
      refine tt_ishl X dX10_reachedFrom_34 ?_
      refine tt_top (y := ((2 ^ (nA (μ 69)) i : Nat) : Int)) (by rw [hA.1, nt_shl hA.2.2.1]) ?_
      refine tt_iconst X dX10_reachedFrom_35 ?_
      refine tt_aload_n X rfl dX10_reachedFrom_36 ?_
      refine tt_getr X fX10_41 (k_60 _ _) (by decide) ⟨nofun, nofun⟩ rfl dX10_reachedFrom_37 ?_
      refine tt_iload X rfl dX10_reachedFrom_40 ?_
      refine tt_iaload X (k_70 _ _) (by first | omega | (simp (disch := decide) only [ot_rd, ot_rs, ot_rf, ot_ucd, ot_ucs]; omega)) dX10_reachedFrom_42 ?_
      try simp (disch := decide) only [ot_rd, ot_rs, ot_rf, ot_ucd, ot_ucs]
      refine tt_ishl X dX10_reachedFrom_43 ?_
      refine tt_top (y := ((2 ^ (nA (μ 70)) i : Nat) : Int)) (by rw [hA.2.1, nt_shl hA.2.2.2.1]) ?_
      refine tt_ior X dX10_reachedFrom_44 ?_
      refine tt_top (nt_or pa pb) ?_
      have hen : 2 ^ (nA (μ 69)) i ||| 2 ^ (nA (μ 70)) i < 16777216 := Nat.or_lt_two_pow (n := 24) pa pb
      refine tt_istore X dX10_reachedFrom_45 (by decide) ?_
      refine tt_iload_n X rfl dX10_reachedFrom_47 ?_
      refine tt_iload X rfl dX10_reachedFrom_48 ?_
      refine tt_ishr X dX10_reachedFrom_50 ?_
      refine tt_iconst X dX10_reachedFrom_51 ?_
      refine tt_iand X dX10_reachedFrom_52 ?_
      refine tt_top (nt_test (m := S) (i := i) (by omega) (by omega)) ?_
      refine tt_iconst X dX10_reachedFrom_53 ?_
      refine tt_icmp_ne X 69 (by split <;> omega) dX10_reachedFrom_54 (by decide) (fun b54 => ?_) (fun b54 => ?_)
      · refine tt_iinc X dX10_reachedFrom_69 rfl (by decide) ?_
        refine tt_goto X 17 dX10_reachedFrom_72 (by decide) ?_
        refine tt_loc [(0, _), (1, _), (2, _), (3, _), (4, _), (5, _)] ⟨rfl, rfl, rfl, rfl, rfl, rfl, trivial⟩ ?_
        have hst : rcI (nA (μ 69)) (nA (μ 70)) S x (i + 1) = if S.testBit i = true ∧ ((rcI (nA (μ 69)) (nA (μ 70)) S x i).testBit ((nA (μ 69)) i) = true ∨ (rcI (nA (μ 69)) (nA (μ 70)) S x i).testBit ((nA (μ 70)) i) = true) then rcI (nA (μ 69)) (nA (μ 70)) S x i ||| (2 ^ (nA (μ 69)) i ||| 2 ^ (nA (μ 70)) i) else rcI (nA (μ 69)) (nA (μ 70)) S x i := rfl
        rw [← hI2.2] at hst
        first
          | (have hb := tb_nil (m := S) (i := i) (by omega)
             rw [if_neg (by rw [hb]; simp)] at hst
             exact ih2 (i + 1, x2) ⟨by show ((i + 1 : Nat) : Int) ≤ _; omega, hst.symm⟩ (by show (μ 60 11).toNat - (i + 1) < (μ 60 11).toNat - i; omega))
          | (have hb := tb_one (m := S) (i := i) (by omega)
             first
               | (have hz := and_ends.mp (show x2 &&& (2 ^ (nA (μ 69)) i ||| 2 ^ (nA (μ 70)) i) = 0 by omega)
                  rw [if_neg (fun q => hz q.2)] at hst
                  exact ih2 (i + 1, x2) ⟨by show ((i + 1 : Nat) : Int) ≤ _; omega, hst.symm⟩ (by show (μ 60 11).toNat - (i + 1) < (μ 60 11).toNat - i; omega))
               | (have hz : x2.testBit ((nA (μ 69)) i) = true ∨ x2.testBit ((nA (μ 70)) i) = true := Classical.byContradiction fun q => b61 (by rw [and_ends.mpr q]; rfl)
                  rw [if_pos ⟨hb, hz⟩] at hst
                  exact ih2 (i + 1, x2 ||| (2 ^ (nA (μ 69)) i ||| 2 ^ (nA (μ 70)) i)) ⟨by show ((i + 1 : Nat) : Int) ≤ _; omega, hst.symm⟩ (by show (μ 60 11).toNat - (i + 1) < (μ 60 11).toNat - i; omega)))
      · refine tt_iload_n X rfl dX10_reachedFrom_57 ?_
        refine tt_iload X rfl dX10_reachedFrom_58 ?_
        refine tt_iand X dX10_reachedFrom_60 ?_
        refine tt_top (bo_and _ _ (by omega)) ?_
        have hal : x2 &&& (2 ^ (nA (μ 69)) i ||| 2 ^ (nA (μ 70)) i) ≤ x2 := Nat.and_le_left
        refine tt_if_eq X 69 (by first | omega | (simp (disch := decide) only [ot_rd, ot_rs, ot_rf, ot_ucd, ot_ucs]; omega)) dX10_reachedFrom_61 (by decide) (fun b61 => ?_) (fun b61 => ?_)
        · refine tt_iinc X dX10_reachedFrom_69 rfl (by decide) ?_
          refine tt_goto X 17 dX10_reachedFrom_72 (by decide) ?_
          refine tt_loc [(0, _), (1, _), (2, _), (3, _), (4, _), (5, _)] ⟨rfl, rfl, rfl, rfl, rfl, rfl, trivial⟩ ?_
          have hst : rcI (nA (μ 69)) (nA (μ 70)) S x (i + 1) = if S.testBit i = true ∧ ((rcI (nA (μ 69)) (nA (μ 70)) S x i).testBit ((nA (μ 69)) i) = true ∨ (rcI (nA (μ 69)) (nA (μ 70)) S x i).testBit ((nA (μ 70)) i) = true) then rcI (nA (μ 69)) (nA (μ 70)) S x i ||| (2 ^ (nA (μ 69)) i ||| 2 ^ (nA (μ 70)) i) else rcI (nA (μ 69)) (nA (μ 70)) S x i := rfl
          rw [← hI2.2] at hst
          first
            | (have hb := tb_nil (m := S) (i := i) (by omega)
               rw [if_neg (by rw [hb]; simp)] at hst
               exact ih2 (i + 1, x2) ⟨by show ((i + 1 : Nat) : Int) ≤ _; omega, hst.symm⟩ (by show (μ 60 11).toNat - (i + 1) < (μ 60 11).toNat - i; omega))
            | (have hb := tb_one (m := S) (i := i) (by omega)
               first
                 | (have hz := and_ends.mp (show x2 &&& (2 ^ (nA (μ 69)) i ||| 2 ^ (nA (μ 70)) i) = 0 by omega)
                    rw [if_neg (fun q => hz q.2)] at hst
                    exact ih2 (i + 1, x2) ⟨by show ((i + 1 : Nat) : Int) ≤ _; omega, hst.symm⟩ (by show (μ 60 11).toNat - (i + 1) < (μ 60 11).toNat - i; omega))
                 | (have hz : x2.testBit ((nA (μ 69)) i) = true ∨ x2.testBit ((nA (μ 70)) i) = true := Classical.byContradiction fun q => b61 (by rw [and_ends.mpr q]; rfl)
                    rw [if_pos ⟨hb, hz⟩] at hst
                    exact ih2 (i + 1, x2 ||| (2 ^ (nA (μ 69)) i ||| 2 ^ (nA (μ 70)) i)) ⟨by show ((i + 1 : Nat) : Int) ≤ _; omega, hst.symm⟩ (by show (μ 60 11).toNat - (i + 1) < (μ 60 11).toNat - i; omega)))
        · refine tt_iload_n X rfl dX10_reachedFrom_64 ?_
          refine tt_iload X rfl dX10_reachedFrom_65 ?_
          refine tt_ior X dX10_reachedFrom_67 ?_
          refine tt_top (nt_or hx2 hen) ?_
          refine tt_istore_n X dX10_reachedFrom_68 (by decide) ?_
          refine tt_iinc X dX10_reachedFrom_69 rfl (by decide) ?_
          refine tt_goto X 17 dX10_reachedFrom_72 (by decide) ?_
          refine tt_loc [(0, _), (1, _), (2, _), (3, _), (4, _), (5, _)] ⟨rfl, rfl, rfl, rfl, rfl, rfl, trivial⟩ ?_
          have hst : rcI (nA (μ 69)) (nA (μ 70)) S x (i + 1) = if S.testBit i = true ∧ ((rcI (nA (μ 69)) (nA (μ 70)) S x i).testBit ((nA (μ 69)) i) = true ∨ (rcI (nA (μ 69)) (nA (μ 70)) S x i).testBit ((nA (μ 70)) i) = true) then rcI (nA (μ 69)) (nA (μ 70)) S x i ||| (2 ^ (nA (μ 69)) i ||| 2 ^ (nA (μ 70)) i) else rcI (nA (μ 69)) (nA (μ 70)) S x i := rfl
          rw [← hI2.2] at hst
          first
            | (have hb := tb_nil (m := S) (i := i) (by omega)
               rw [if_neg (by rw [hb]; simp)] at hst
               exact ih2 (i + 1, x2) ⟨by show ((i + 1 : Nat) : Int) ≤ _; omega, hst.symm⟩ (by show (μ 60 11).toNat - (i + 1) < (μ 60 11).toNat - i; omega))
            | (have hb := tb_one (m := S) (i := i) (by omega)
               first
                 | (have hz := and_ends.mp (show x2 &&& (2 ^ (nA (μ 69)) i ||| 2 ^ (nA (μ 70)) i) = 0 by omega)
                    rw [if_neg (fun q => hz q.2)] at hst
                    exact ih2 (i + 1, x2) ⟨by show ((i + 1 : Nat) : Int) ≤ _; omega, hst.symm⟩ (by show (μ 60 11).toNat - (i + 1) < (μ 60 11).toNat - i; omega))
                 | (have hz : x2.testBit ((nA (μ 69)) i) = true ∨ x2.testBit ((nA (μ 70)) i) = true := Classical.byContradiction fun q => b61 (by rw [and_ends.mpr q]; rfl)
                    rw [if_pos ⟨hb, hz⟩] at hst
                    exact ih2 (i + 1, x2 ||| (2 ^ (nA (μ 69)) i ||| 2 ^ (nA (μ 70)) i)) ⟨by show ((i + 1 : Nat) : Int) ≤ _; omega, hst.symm⟩ (by show (μ 60 11).toNat - (i + 1) < (μ 60 11).toNat - i; omega)))
set_option maxRecDepth 100000 in
set_option maxHeartbeats 1000000 in
theorem q_leastIn (l : Launch) (g : ot_G) (ln : Nat) (ext : ot_L) (μ : ot_M) (S q : Nat) (hS : S < 16777216) (hq : S.testBit q = true) (hl : ∀ i, i < q → S.testBit i = false)  : ot_C l g yX10_leastIn cX10_leastIn 3 (some .int) 0 0 0 [.inr 60, .inl (S : Int)] (LL ln ext) μ (ot_pi (fun r L2 μ2 => L2 = LL ln ext ∧ μ2 = μ ∧ r = (q : Int))) := by
  refine ot_enter (by decide) (Nat.le_of_ble_eq_true rfl) ?_
  intro p e s m args below meth c X hr
  have hq24 : q < 24 := tb_lo (n := 24) hS hq
  refine tt_iconst X dX10_leastIn_0 ?_
  refine tt_istore_n X dX10_leastIn_1 (by decide) ?_
  refine tt_loc [(0, _), (1, _), (2, _)] ⟨rfl, rfl, rfl, trivial⟩ ?_
  refine tt_loop (α := Nat) (fun i => q - i) (fun i => i ≤ q) (fun i => μ) (fun i => [(0, .inr 60), (1, .inl (S : Int)), (2, .inl (i : Int))]) 0 (Nat.zero_le _) ?_
  intro i hI ih
  try dsimp only at hI ih ⊢
  refine tt_iload_n X rfl dX10_leastIn_2 ?_
  refine tt_iload_n X rfl dX10_leastIn_3 ?_
  refine tt_ishr X dX10_leastIn_4 ?_
  refine tt_iconst X dX10_leastIn_5 ?_
  refine tt_iand X dX10_leastIn_6 ?_
  refine tt_top (nt_test (m := S) (i := i) (by omega) (by omega)) ?_
  refine tt_if_ne X 17 (by split <;> omega) dX10_leastIn_7 (by decide) (fun b7 => ?_) (fun b7 => ?_)
  · refine tt_iload_n X rfl dX10_leastIn_17 ?_
    refine tt_iret X ⟨hr.1, hr.2.1⟩ (by decide) (by decide) dX10_leastIn_18 ?_
    have hne : i = q := by
      apply Classical.byContradiction
      intro e
      rw [hl i (by omega)] at b7
      simp at b7
    refine ⟨rfl, rfl, ?_⟩
    rw [hne]
  · refine tt_iload_n X rfl dX10_leastIn_10 ?_
    refine tt_iconst X dX10_leastIn_11 ?_
    refine tt_iadd X dX10_leastIn_12 ?_
    refine tt_istore_n X dX10_leastIn_13 (by decide) ?_
    refine tt_goto X 2 dX10_leastIn_14 (by decide) ?_
    refine tt_loc [(0, _), (1, _), (2, _)] ⟨rfl, rfl, rfl, trivial⟩ ?_
    have hne : i ≠ q := by
      intro e
      subst e
      rw [hq] at b7
      simp at b7
    exact ih (i + 1) (by omega) (by omega)

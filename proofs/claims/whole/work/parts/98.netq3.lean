def lbP (A B : Nat → Nat) (S a b l : Nat) : Bool := S.testBit l && ((decide (A l = a) && decide (B l = b)) || (decide (A l = b) && decide (B l = a)))
theorem lbP_iff {A B : Nat → Nat} {S a b l : Nat} : lbP A B S a b l = true ↔ S.testBit l = true ∧ bet A B l a b := by
  unfold lbP bet
  simp only [Bool.and_eq_true, Bool.or_eq_true, decide_eq_true_eq]
def lbN (A B : Nat → Nat) (S M a b : Nat) : Nat := lsN (lbP A B S a b) M
def cgB (A B : Nat → Nat) (M S a : Nat) : Bool := decide (S = 0) || (decide (anN (pinN A B S M) (rcN A B S M (2 ^ a) M) = 0) && (decide (oddN A B S M = 0) || (decide (cnt (oddN A B S M) 24 = 2) && (oddN A B S M).testBit a)))
theorem an_zero {a b : Nat} : anN a b = 0 ↔ ∀ i, a.testBit i = true → b.testBit i = true := by
  constructor
  · intro h i hi
    have : (anN a b).testBit i = false := by rw [h, Nat.zero_testBit]
    rw [tb_an, hi] at this
    simpa using this
  · intro h
    refine Nat.eq_of_testBit_eq (fun i => ?_)
    rw [Nat.zero_testBit, tb_an]
    cases q : a.testBit i
    · rfl
    · rw [h i q]; rfl
theorem cnt_is2 {m a z : Nat} (ha : a < 24) (hz : z < 24) (hza : z ≠ a) (h : ∀ i, m.testBit i = true ↔ i = a ∨ i = z) : cnt m 24 = 2 := by
  have e : m = (0 ^^^ 2 ^ a) ^^^ 2 ^ z := by
    refine Nat.eq_of_testBit_eq (fun i => ?_)
    rw [tb_x, tb_x, Nat.zero_testBit]
    by_cases e1 : z = i
    · rw [if_pos e1, if_neg (by omega), (h i).mpr (.inr e1.symm)]; rfl
    · rw [if_neg e1]
      by_cases e2 : a = i
      · rw [if_pos e2, (h i).mpr (.inl e2.symm)]; rfl
      · rw [if_neg e2, Bool.eq_false_iff]
        intro w
        have := (h i).mp w
        omega
  have h1 := cnt_flip (m := 0) (i := a) 24 ha
  have h2 := cnt_flip (m := 0 ^^^ 2 ^ a) (i := z) 24 hz
  rw [Nat.zero_testBit, cnt_zero] at h1
  have hb : (0 ^^^ 2 ^ a).testBit z = false := by rw [tb_x, if_neg (show ¬ a = z by omega), Nat.zero_testBit]
  rw [hb] at h2
  simp only [Bool.false_eq_true, if_false] at h1 h2
  rw [e]
  omega
/-- the way on, as the other asks for it -/
theorem stq {A B : Nat → Nat} {M S a t : Nat} {J : Nat → Nat} (hw : wfL A B M) (hg : goF A B M S a J) (ht : t < 24) : (lbN A B S M a t < M → S.testBit (lbN A B S M a t) = true ∧ stB J a t = cgB A B M (S ^^^ 2 ^ lbN A B S M a t) t) ∧ (¬ lbN A B S M a t < M → stB J a t = false) := by
  constructor
  · intro hl
    have hp := lbP_iff.mp (lsN_lt M hl)
    have hp2 : S.testBit (lbN A B S M a t) = true ∧ bet A B (lbN A B S M a t) a t := hp
    generalize lbN A B S M a t = k at *
    refine ⟨hp2.1, ?_⟩
    have hJ2 := isJ_del hw hg.1 hl hp2.1 hp2.2
    have hod := odd_step hw hl hp2.1 hp2.2 hg.2.2.2
    have hJat : (J a).testBit t = true := (hg.1 a t).mpr ⟨k, hl, hp2.1, hp2.2⟩
    unfold stB cgB
    rw [hJat, Bool.true_and]
    generalize S ^^^ 2 ^ k = S2 at *
    rw [rc_eq hw hJ2 ht]
    have hodd : (decide (oddN A B S2 M = 0) || (decide (cnt (oddN A B S2 M) 24 = 2) && (oddN A B S2 M).testBit t)) = true := by
      rcases hod with h0 | ⟨z, hz, h0⟩
      · rw [h0]; rfl
      · have hzl : z < 24 := tb_lo (n := 24) (oddN_lt hw M (Nat.le_refl _)) ((h0 z).mpr (.inr rfl))
        rw [cnt_is2 ht hzl hz h0, (h0 t).mpr (.inl rfl)]
        simp
    rw [hodd, Bool.and_true]
    apply Bool.eq_iff_iff.mpr
    rw [hgB_iff, Bool.or_eq_true, decide_eq_true_eq, decide_eq_true_eq, an_zero]
    constructor
    · intro h
      right
      intro i hi
      have hne := (isJ_pin hJ2 i).mp hi
      refine h i ?_ hne
      rcases Nat.lt_or_ge i 24 with q | q
      · exact q
      · exact absurd (isJ_hi hw hJ2 q) hne
    · rintro (h | h) u hu hne
      · exfalso
        obtain ⟨j, hj⟩ := tb_ne.mp hne
        obtain ⟨l, _, q2, _⟩ := (hJ2 u j).mp hj
        rw [h, Nat.zero_testBit] at q2
        cases q2
      · exact h u ((isJ_pin hJ2 u).mpr hne)
  · intro hl
    unfold stB
    have : (J a).testBit t = false := by
      rw [Bool.eq_false_iff]
      intro w
      obtain ⟨l, h1, h2, h3⟩ := (hg.1 a t).mp w
      have := lsN_spec (P := lbP A B S a t) h1 (lbP_iff.mpr ⟨h2, h3⟩)
      unfold lbN at hl
      omega
    rw [this]; rfl
/-- the first pin, as the other seeks it -/
theorem start_q {A B : Nat → Nat} {M S : Nat} {J : Nat → Nat} {od : Nat} (hw : wfL A B M) (hJ : isJ A B M S J) (ho : od = oddN A B S M) (h : (knF J od 24).2.1 = 1) : ((pinN A B S M).testBit (stA J od) && cgB A B M S (stA J od)) = true ∧ ∀ i, i < stA J od → ((pinN A B S M).testBit i && cgB A B M S i) = false := by
  obtain ⟨hg, hp, hall, h1, h2⟩ := one_thread hw hJ ho h
  have hreach : ∀ i, i < 24 → J i ≠ 0 → (rcN A B S M (2 ^ i) M) = prt J i ∧ ∀ u, J u ≠ 0 → (prt J i).testBit u = true := by
    intro i hi hne
    refine ⟨rc_eq hw hJ hi, fun u hu => ?_⟩
    have e1 := hg.2.2.1 i hne
    have e2 := hg.2.2.1 u hu
    exact prt_tr hw hJ hi (prt_sym hw hJ hi e1) e2
  have hcg : ∀ i, i < 24 → J i ≠ 0 → cgB A B M S i = (decide (od = 0) || (decide (cnt od 24 = 2) && od.testBit i)) := by
    intro i hi hne
    have hr := hreach i hi hne
    unfold cgB
    rw [hr.1, ← ho]
    have hz : anN (pinN A B S M) (prt J i) = 0 := an_zero.mpr (fun u hu => hr.2 u ((isJ_pin hJ u).mp hu))
    have hS : S ≠ 0 := by
      intro e
      obtain ⟨j, hj⟩ := tb_ne.mp hne
      obtain ⟨l, _, q2, _⟩ := (hJ i j).mp hj
      rw [e, Nat.zero_testBit] at q2
      cases q2
    rw [hz, decide_eq_false hS]
    simp
  have hJa : J (stA J od) ≠ 0 := by
    by_cases w : od = 0
    · exact (h2 w).1
    · have := (h1 w).1
      rw [ho] at this
      have := (isJ_pin hJ _).mp (oddN_pin _ M this)
      rw [← ho] at this
      exact this
  constructor
  · rw [(isJ_pin hJ _).mpr hJa, hcg _ hg.2.1 hJa, Bool.true_and]
    by_cases w : od = 0
    · rw [decide_eq_true w]; rfl
    · rw [(h1 w).1, decide_eq_false w]
      rcases hg.2.2.2 with q | ⟨z, hz, q⟩
      · rw [← ho] at q; exact absurd q w
      · rw [← ho] at q
        have hzl : z < 24 := tb_lo (n := 24) (show od < 2 ^ 24 by rw [ho]; exact oddN_lt hw M (Nat.le_refl _)) ((q z).mpr (.inr rfl))
        rw [cnt_is2 hg.2.1 hzl hz q]
        rfl
  · intro i hi
    have hi24 : i < 24 := by have := hg.2.1; omega
    cases w1 : (pinN A B S M).testBit i
    · rfl
    · have hne := (isJ_pin hJ i).mp w1
      rw [hcg i hi24 hne, Bool.true_and]
      by_cases w : od = 0
      · exact absurd ((h2 w).2 i hi) hne
      · rw [decide_eq_false w, (h1 w).2 i hi]; simp
set_option maxRecDepth 100000 in
set_option maxHeartbeats 1000000 in
theorem q_lineBetween (l : Launch) (g : ot_G) (ln : Nat) (ext : ot_L) (μ : ot_M) (a b : Nat) (ha : a < 1000) (hb : b < 1000) (S : Nat) (hS : S < 1048576) (hN : gNet (μ 60 11) (μ 69) (μ 70))  : ot_C l g yX10_lineBetween cX10_lineBetween 5 (some .int) 0 0 0 [.inr 60, .inl (a : Int), .inl (b : Int), .inl (S : Int)] (LL ln ext) μ (ot_pi (fun r L2 μ2 => L2 = LL ln ext ∧ μ2 = μ ∧ r = (if lbN (nA (μ 69)) (nA (μ 70)) S (μ 60 11).toNat a b < (μ 60 11).toNat then (lbN (nA (μ 69)) (nA (μ 70)) S (μ 60 11).toNat a b : Int) else -1))) := by
  refine ot_enter (by decide) (Nat.le_of_ble_eq_true rfl) ?_
  intro p e s m args below meth c X hr
  have hM := hN.1
  have hw := hN.2.2
  have hlb : ∀ u, lbP (nA (μ 69)) (nA (μ 70)) S a b u = true ↔ S.testBit u = true ∧ bet (nA (μ 69)) (nA (μ 70)) u a b := fun u => lbP_iff
  refine tt_iconst X dX10_lineBetween_0 ?_
  refine tt_istore X dX10_lineBetween_1 (by decide) ?_
  refine tt_loc [(0, _), (1, _), (2, _), (3, _), (4, _)] ⟨rfl, rfl, rfl, rfl, rfl, trivial⟩ ?_
  refine tt_loop (α := Nat) (fun i => (μ 60 11).toNat - i) (fun i => (i : Int) ≤ μ 60 11 ∧ ∀ u, u < i → lbP (nA (μ 69)) (nA (μ 70)) S a b u = false) (fun i => μ) (fun i => [(0, .inr 60), (1, .inl (a : Int)), (2, .inl (b : Int)), (3, .inl (S : Int)), (4, .inl (i : Int))]) 0 ⟨by show ((0 : Nat) : Int) ≤ _; omega, fun u hu => absurd hu (Nat.not_lt_zero u)⟩ ?_
  intro i hI ih
  try dsimp only at hI ih ⊢
  replace hI : (i : Int) ≤ μ 60 11 ∧ ∀ u, u < i → lbP (nA (μ 69)) (nA (μ 70)) S a b u = false := hI
  have hi := hI.1
  refine tt_iload X rfl dX10_lineBetween_3 ?_
  refine tt_aload_n X rfl dX10_lineBetween_5 ?_
  refine tt_geti X fX10_108 (k_60 _ _) (by decide) (Or.inl rfl) dX10_lineBetween_6 ?_
  try simp (disch := decide) only [ot_rd, ot_rs, ot_rf, ot_ucd, ot_ucs]
  refine tt_icmp_ge X 75 (by first | omega | (simp (disch := decide) only [ot_rd, ot_rs, ot_rf, ot_ucd, ot_ucs]; omega)) dX10_lineBetween_9 (by decide) (fun b9 => ?_) (fun b9 => ?_)
  · refine tt_iconst X dX10_lineBetween_75 ?_
    refine tt_iret X ⟨hr.1, hr.2.1⟩ (by decide) (by decide) dX10_lineBetween_76 ?_
    have hie : i = (μ 60 11).toNat := by omega
    have hnone := hI.2
    rw [hie] at hnone
    have hls : lbN (nA (μ 69)) (nA (μ 70)) S (μ 60 11).toNat a b = (μ 60 11).toNat := lsN_none _ hnone
    refine ⟨rfl, rfl, ?_⟩
    rw [hls, if_neg (by omega)]
  · refine tt_iload_n X rfl dX10_lineBetween_12 ?_
    refine tt_iload X rfl dX10_lineBetween_13 ?_
    refine tt_ishr X dX10_lineBetween_15 ?_
    refine tt_iconst X dX10_lineBetween_16 ?_
    refine tt_iand X dX10_lineBetween_17 ?_
    refine tt_top (nt_test (m := S) (i := i) (by omega) (by omega)) ?_
    refine tt_iconst X dX10_lineBetween_18 ?_
    refine tt_icmp_ne X 69 (by split <;> omega) dX10_lineBetween_19 (by decide) (fun b19 => ?_) (fun b19 => ?_)
    · refine tt_iinc X dX10_lineBetween_69 rfl (by decide) ?_
      refine tt_goto X 3 dX10_lineBetween_72 (by decide) ?_
      refine tt_loc [(0, _), (1, _), (2, _), (3, _), (4, _)] ⟨rfl, rfl, rfl, rfl, rfl, trivial⟩ ?_
      refine ih (i + 1) ⟨by omega, fun u hu => ?_⟩ (by omega)
      by_cases w : u = i
      · subst w
        rw [Bool.eq_false_iff]
        intro q
        have q2 := (hlb u).mp q
        first
          | (rw [tb_nil (m := S) (i := u) (by omega)] at q2; cases q2.1)
          | (have q3 := q2.2
             unfold bet at q3
             omega)
      · exact hI.2 u (by omega)
    · have hA := nA_eq hN (l := i) (by omega)
      refine tt_aload_n X rfl dX10_lineBetween_22 ?_
      refine tt_getr X fX10_38 (k_60 _ _) (by decide) ⟨nofun, nofun⟩ rfl dX10_lineBetween_23 ?_
      refine tt_iload X rfl dX10_lineBetween_26 ?_
      refine tt_iaload X (k_69 _ _) (by first | omega | (simp (disch := decide) only [ot_rd, ot_rs, ot_rf, ot_ucd, ot_ucs]; omega)) dX10_lineBetween_28 ?_
      try simp (disch := decide) only [ot_rd, ot_rs, ot_rf, ot_ucd, ot_ucs]
      refine tt_top hA.1 ?_
      refine tt_iload_n X rfl dX10_lineBetween_29 ?_
      refine tt_icmp_ne X 44 (by first | omega | (simp (disch := decide) only [ot_rd, ot_rs, ot_rf, ot_ucd, ot_ucs]; omega)) dX10_lineBetween_30 (by decide) (fun b30 => ?_) (fun b30 => ?_)
      · refine tt_aload_n X rfl dX10_lineBetween_44 ?_
        refine tt_getr X fX10_38 (k_60 _ _) (by decide) ⟨nofun, nofun⟩ rfl dX10_lineBetween_45 ?_
        refine tt_iload X rfl dX10_lineBetween_48 ?_
        refine tt_iaload X (k_69 _ _) (by first | omega | (simp (disch := decide) only [ot_rd, ot_rs, ot_rf, ot_ucd, ot_ucs]; omega)) dX10_lineBetween_50 ?_
        try simp (disch := decide) only [ot_rd, ot_rs, ot_rf, ot_ucd, ot_ucs]
        refine tt_top hA.1 ?_
        refine tt_iload_n X rfl dX10_lineBetween_51 ?_
        refine tt_icmp_ne X 69 (by first | omega | (simp (disch := decide) only [ot_rd, ot_rs, ot_rf, ot_ucd, ot_ucs]; omega)) dX10_lineBetween_52 (by decide) (fun b52 => ?_) (fun b52 => ?_)
        · refine tt_iinc X dX10_lineBetween_69 rfl (by decide) ?_
          refine tt_goto X 3 dX10_lineBetween_72 (by decide) ?_
          refine tt_loc [(0, _), (1, _), (2, _), (3, _), (4, _)] ⟨rfl, rfl, rfl, rfl, rfl, trivial⟩ ?_
          refine ih (i + 1) ⟨by omega, fun u hu => ?_⟩ (by omega)
          by_cases w : u = i
          · subst w
            rw [Bool.eq_false_iff]
            intro q
            have q2 := (hlb u).mp q
            first
              | (rw [tb_nil (m := S) (i := u) (by omega)] at q2; cases q2.1)
              | (have q3 := q2.2
                 unfold bet at q3
                 omega)
          · exact hI.2 u (by omega)
        · refine tt_aload_n X rfl dX10_lineBetween_55 ?_
          refine tt_getr X fX10_41 (k_60 _ _) (by decide) ⟨nofun, nofun⟩ rfl dX10_lineBetween_56 ?_
          refine tt_iload X rfl dX10_lineBetween_59 ?_
          refine tt_iaload X (k_70 _ _) (by first | omega | (simp (disch := decide) only [ot_rd, ot_rs, ot_rf, ot_ucd, ot_ucs]; omega)) dX10_lineBetween_61 ?_
          try simp (disch := decide) only [ot_rd, ot_rs, ot_rf, ot_ucd, ot_ucs]
          refine tt_top hA.2.1 ?_
          refine tt_iload_n X rfl dX10_lineBetween_62 ?_
          refine tt_icmp_ne X 69 (by first | omega | (simp (disch := decide) only [ot_rd, ot_rs, ot_rf, ot_ucd, ot_ucs]; omega)) dX10_lineBetween_63 (by decide) (fun b63 => ?_) (fun b63 => ?_)
          · refine tt_iinc X dX10_lineBetween_69 rfl (by decide) ?_
            refine tt_goto X 3 dX10_lineBetween_72 (by decide) ?_
            refine tt_loc [(0, _), (1, _), (2, _), (3, _), (4, _)] ⟨rfl, rfl, rfl, rfl, rfl, trivial⟩ ?_
            refine ih (i + 1) ⟨by omega, fun u hu => ?_⟩ (by omega)
            by_cases w : u = i
            · subst w
              rw [Bool.eq_false_iff]
              intro q
              have q2 := (hlb u).mp q
              first
                | (rw [tb_nil (m := S) (i := u) (by omega)] at q2; cases q2.1)
                | (have q3 := q2.2
                   unfold bet at q3
                   omega)
            · exact hI.2 u (by omega)
          · refine tt_iload X rfl dX10_lineBetween_66 ?_
            refine tt_iret X ⟨hr.1, hr.2.1⟩ (by decide) (by decide) dX10_lineBetween_68 ?_
            have hbi := tb_one (m := S) (i := i) (by omega)
            have hP : lbP (nA (μ 69)) (nA (μ 70)) S a b i = true := (hlb i).mpr ⟨hbi, by unfold bet; omega⟩
            have hls : lbN (nA (μ 69)) (nA (μ 70)) S (μ 60 11).toNat a b = i := lsN_eq hP hI.2 _ (by omega)
            refine ⟨rfl, rfl, ?_⟩
            rw [hls, if_pos (by omega)]
      · refine tt_aload_n X rfl dX10_lineBetween_33 ?_
        refine tt_getr X fX10_41 (k_60 _ _) (by decide) ⟨nofun, nofun⟩ rfl dX10_lineBetween_34 ?_
        refine tt_iload X rfl dX10_lineBetween_37 ?_
        refine tt_iaload X (k_70 _ _) (by first | omega | (simp (disch := decide) only [ot_rd, ot_rs, ot_rf, ot_ucd, ot_ucs]; omega)) dX10_lineBetween_39 ?_
        try simp (disch := decide) only [ot_rd, ot_rs, ot_rf, ot_ucd, ot_ucs]
        refine tt_top hA.2.1 ?_
        refine tt_iload_n X rfl dX10_lineBetween_40 ?_
        refine tt_icmp_eq X 66 (by first | omega | (simp (disch := decide) only [ot_rd, ot_rs, ot_rf, ot_ucd, ot_ucs]; omega)) dX10_lineBetween_41 (by decide) (fun b41 => ?_) (fun b41 => ?_)
        · refine tt_iload X rfl dX10_lineBetween_66 ?_
          refine tt_iret X ⟨hr.1, hr.2.1⟩ (by decide) (by decide) dX10_lineBetween_68 ?_
          have hbi := tb_one (m := S) (i := i) (by omega)
          have hP : lbP (nA (μ 69)) (nA (μ 70)) S a b i = true := (hlb i).mpr ⟨hbi, by unfold bet; omega⟩
          have hls : lbN (nA (μ 69)) (nA (μ 70)) S (μ 60 11).toNat a b = i := lsN_eq hP hI.2 _ (by omega)
          refine ⟨rfl, rfl, ?_⟩
          rw [hls, if_pos (by omega)]
        · refine tt_aload_n X rfl dX10_lineBetween_44 ?_
          refine tt_getr X fX10_38 (k_60 _ _) (by decide) ⟨nofun, nofun⟩ rfl dX10_lineBetween_45 ?_
          refine tt_iload X rfl dX10_lineBetween_48 ?_
          refine tt_iaload X (k_69 _ _) (by first | omega | (simp (disch := decide) only [ot_rd, ot_rs, ot_rf, ot_ucd, ot_ucs]; omega)) dX10_lineBetween_50 ?_
          try simp (disch := decide) only [ot_rd, ot_rs, ot_rf, ot_ucd, ot_ucs]
          refine tt_top hA.1 ?_
          refine tt_iload_n X rfl dX10_lineBetween_51 ?_
          refine tt_icmp_ne X 69 (by first | omega | (simp (disch := decide) only [ot_rd, ot_rs, ot_rf, ot_ucd, ot_ucs]; omega)) dX10_lineBetween_52 (by decide) (fun b52 => ?_) (fun b52 => ?_)
          · refine tt_iinc X dX10_lineBetween_69 rfl (by decide) ?_
            refine tt_goto X 3 dX10_lineBetween_72 (by decide) ?_
            refine tt_loc [(0, _), (1, _), (2, _), (3, _), (4, _)] ⟨rfl, rfl, rfl, rfl, rfl, trivial⟩ ?_
            refine ih (i + 1) ⟨by omega, fun u hu => ?_⟩ (by omega)
            by_cases w : u = i
            · subst w
              rw [Bool.eq_false_iff]
              intro q
              have q2 := (hlb u).mp q
              first
                | (rw [tb_nil (m := S) (i := u) (by omega)] at q2; cases q2.1)
                | (have q3 := q2.2
                   unfold bet at q3
                   omega)
            · exact hI.2 u (by omega)
          · refine tt_aload_n X rfl dX10_lineBetween_55 ?_
            refine tt_getr X fX10_41 (k_60 _ _) (by decide) ⟨nofun, nofun⟩ rfl dX10_lineBetween_56 ?_
            refine tt_iload X rfl dX10_lineBetween_59 ?_
            refine tt_iaload X (k_70 _ _) (by first | omega | (simp (disch := decide) only [ot_rd, ot_rs, ot_rf, ot_ucd, ot_ucs]; omega)) dX10_lineBetween_61 ?_
            try simp (disch := decide) only [ot_rd, ot_rs, ot_rf, ot_ucd, ot_ucs]
            refine tt_top hA.2.1 ?_
            refine tt_iload_n X rfl dX10_lineBetween_62 ?_
            refine tt_icmp_ne X 69 (by first | omega | (simp (disch := decide) only [ot_rd, ot_rs, ot_rf, ot_ucd, ot_ucs]; omega)) dX10_lineBetween_63 (by decide) (fun b63 => ?_) (fun b63 => ?_)
            · refine tt_iinc X dX10_lineBetween_69 rfl (by decide) ?_
              refine tt_goto X 3 dX10_lineBetween_72 (by decide) ?_
              refine tt_loc [(0, _), (1, _), (2, _), (3, _), (4, _)] ⟨rfl, rfl, rfl, rfl, rfl, trivial⟩ ?_
              refine ih (i + 1) ⟨by omega, fun u hu => ?_⟩ (by omega)
              by_cases w : u = i
              · subst w
                rw [Bool.eq_false_iff]
                intro q
                have q2 := (hlb u).mp q
                first
                  | (rw [tb_nil (m := S) (i := u) (by omega)] at q2; cases q2.1)
                  | (have q3 := q2.2
                     unfold bet at q3
                     omega)
              · exact hI.2 u (by omega)
            · refine tt_iload X rfl dX10_lineBetween_66 ?_
              refine tt_iret X ⟨hr.1, hr.2.1⟩ (by decide) (by decide) dX10_lineBetween_68 ?_
              have hbi := tb_one (m := S) (i := i) (by omega)
              have hP : lbP (nA (μ 69)) (nA (μ 70)) S a b i = true := (hlb i).mpr ⟨hbi, by unfold bet; omega⟩
              have hls : lbN (nA (μ 69)) (nA (μ 70)) S (μ 60 11).toNat a b = i := lsN_eq hP hI.2 _ (by omega)
              refine ⟨rfl, rfl, ?_⟩
              rw [hls, if_pos (by omega)]
set_option maxRecDepth 100000 in
set_option maxHeartbeats 1000000 in
theorem q_canGoAll (l : Launch) (g : ot_G) (ln : Nat) (ext : ot_L) (μ : ot_M) (a : Nat) (ha : a < 24) (S : Nat) (hS : S < 1048576) (hN : gNet (μ 60 11) (μ 69) (μ 70))  : ot_C l g yX10_canGoAll cX10_canGoAll 4 (some .boolean) 1 0 0 [.inr 60, .inl (a : Int), .inl (S : Int)] (LL ln ext) μ (ot_pi (fun r L2 μ2 => L2 = LL ln ext ∧ μ2 = μ ∧ r = (if cgB (nA (μ 69)) (nA (μ 70)) (μ 60 11).toNat S a then 1 else 0))) := by
  refine ot_enter (by decide) (Nat.le_of_ble_eq_true rfl) ?_
  intro p e s m args below meth c X hr
  have hM := hN.1
  have hw := hN.2.2
  have hol : oddN (nA (μ 69)) (nA (μ 70)) S (μ 60 11).toNat < 16777216 := oddN_lt hw _ (Nat.le_refl _)
  have hpl : pinN (nA (μ 69)) (nA (μ 70)) S (μ 60 11).toNat < 16777216 := pinN_lt hw _ (Nat.le_refl _)
  have hrl : rcN (nA (μ 69)) (nA (μ 70)) S (μ 60 11).toNat (2 ^ a) (μ 60 11).toNat < 16777216 := rcN_lt hw (nt_p ha) _
  have hcg : cgB (nA (μ 69)) (nA (μ 70)) (μ 60 11).toNat S a = (decide (S = 0) || (decide (anN (pinN (nA (μ 69)) (nA (μ 70)) S (μ 60 11).toNat) (rcN (nA (μ 69)) (nA (μ 70)) S (μ 60 11).toNat (2 ^ a) (μ 60 11).toNat) = 0) && (decide (oddN (nA (μ 69)) (nA (μ 70)) S (μ 60 11).toNat = 0) || (decide (cnt (oddN (nA (μ 69)) (nA (μ 70)) S (μ 60 11).toNat) 24 = 2) && (oddN (nA (μ 69)) (nA (μ 70)) S (μ 60 11).toNat).testBit a)))) := rfl
  rw [hcg]
  have hcl := cnt_le (oddN (nA (μ 69)) (nA (μ 70)) S (μ 60 11).toNat) 24
  refine tt_iload_n X rfl dX10_canGoAll_0 ?_
  refine tt_if_ne X 6 (by omega) dX10_canGoAll_1 (by decide) (fun b1 => ?_) (fun b1 => ?_)
  · refine tt_aload_n X rfl dX10_canGoAll_6 ?_
    refine tt_iload_n X rfl dX10_canGoAll_7 ?_
    refine tt_vi X rfl mX10_290 (q_oddOf l g ln ext _ S hS hN) (k_60 _ _) ⟨_, rfl, rfl⟩ rfl rfl (Nat.le_of_ble_eq_true rfl) (by decide) (by decide) (by decide) dX10_canGoAll_8 (fun z8 L8 μ8 hp => ?_)
    obtain ⟨rfl, e8, hz8⟩ := hp
    replace e8 := e8.symm
    subst e8
    refine tt_top hz8 ?_
    try simp (disch := decide) only [ot_rd, ot_rs, ot_rf, ot_ucd, ot_ucs] at hz8
    refine tt_istore_n X dX10_canGoAll_11 (by decide) ?_
    refine tt_aload_n X rfl dX10_canGoAll_12 ?_
    refine tt_iload_n X rfl dX10_canGoAll_13 ?_
    refine tt_vi X rfl mX10_281 (q_pinsOf l g ln ext _ S hS hN) (k_60 _ _) ⟨_, rfl, rfl⟩ rfl rfl (Nat.le_of_ble_eq_true rfl) (by decide) (by decide) (by decide) dX10_canGoAll_14 (fun z14 L14 μ14 hp => ?_)
    obtain ⟨rfl, e14, hz14⟩ := hp
    replace e14 := e14.symm
    subst e14
    refine tt_top hz14 ?_
    try simp (disch := decide) only [ot_rd, ot_rs, ot_rf, ot_ucd, ot_ucs] at hz14
    refine tt_aload_n X rfl dX10_canGoAll_17 ?_
    refine tt_iconst X dX10_canGoAll_18 ?_
    refine tt_iload_n X rfl dX10_canGoAll_19 ?_
    refine tt_ishl X dX10_canGoAll_20 ?_
    refine tt_top (nt_shl ha) ?_
    refine tt_iload_n X rfl dX10_canGoAll_21 ?_
    refine tt_vi X rfl mX10_287 (q_reachedFrom l g ln ext _ (2 ^ a) (nt_p ha) S hS hN) (k_60 _ _) ⟨_, rfl, rfl⟩ rfl rfl (Nat.le_of_ble_eq_true rfl) (by decide) (by decide) (by decide) dX10_canGoAll_22 (fun z22 L22 μ22 hp => ?_)
    obtain ⟨rfl, e22, hz22⟩ := hp
    replace e22 := e22.symm
    subst e22
    refine tt_top hz22 ?_
    try simp (disch := decide) only [ot_rd, ot_rs, ot_rf, ot_ucd, ot_ucs] at hz22
    refine tt_iconst X dX10_canGoAll_25 ?_
    refine tt_ixor X dX10_canGoAll_26 ?_
    refine tt_iand X dX10_canGoAll_27 ?_
    refine tt_top (bo_an (by omega) (by omega)) ?_
    have han := an_lt (n := 24) (b := rcN (nA (μ 69)) (nA (μ 70)) S (μ 60 11).toNat (2 ^ a) (μ 60 11).toNat) hpl
    refine tt_if_eq X 33 (by first | omega | (simp (disch := decide) only [ot_rd, ot_rs, ot_rf, ot_ucd, ot_ucs]; omega)) dX10_canGoAll_28 (by decide) (fun b28 => ?_) (fun b28 => ?_)
    · refine tt_iload_n X rfl dX10_canGoAll_33 ?_
      refine tt_if_eq X 55 (by first | omega | (simp (disch := decide) only [ot_rd, ot_rs, ot_rf, ot_ucd, ot_ucs]; omega)) dX10_canGoAll_34 (by decide) (fun b34 => ?_) (fun b34 => ?_)
      · refine tt_iconst X dX10_canGoAll_55 ?_
        refine tt_goto X 60 dX10_canGoAll_56 (by decide) ?_
        refine tt_zret X ⟨hr.1, hr.2.1⟩ (by omega) (by decide) (by decide) dX10_canGoAll_60 ?_
        refine ⟨rfl, rfl, ?_⟩
        rw [decide_eq_false (show ¬ S = 0 by omega), decide_eq_true (show anN (pinN (nA (μ 69)) (nA (μ 70)) S (μ 60 11).toNat) (rcN (nA (μ 69)) (nA (μ 70)) S (μ 60 11).toNat (2 ^ a) (μ 60 11).toNat) = 0 by omega)]
        first
          | (rw [decide_eq_true (show oddN (nA (μ 69)) (nA (μ 70)) S (μ 60 11).toNat = 0 by omega)]; rfl)
          | (rw [decide_eq_false (show ¬ oddN (nA (μ 69)) (nA (μ 70)) S (μ 60 11).toNat = 0 by omega), decide_eq_false (show ¬ cnt (oddN (nA (μ 69)) (nA (μ 70)) S (μ 60 11).toNat) 24 = 2 by omega)]; rfl)
          | (rw [decide_eq_false (show ¬ oddN (nA (μ 69)) (nA (μ 70)) S (μ 60 11).toNat = 0 by omega), decide_eq_true (show cnt (oddN (nA (μ 69)) (nA (μ 70)) S (μ 60 11).toNat) 24 = 2 by omega), tb_one (m := oddN (nA (μ 69)) (nA (μ 70)) S (μ 60 11).toNat) (i := a) (by omega)]; rfl)
          | (rw [decide_eq_false (show ¬ oddN (nA (μ 69)) (nA (μ 70)) S (μ 60 11).toNat = 0 by omega), decide_eq_true (show cnt (oddN (nA (μ 69)) (nA (μ 70)) S (μ 60 11).toNat) 24 = 2 by omega), tb_nil (m := oddN (nA (μ 69)) (nA (μ 70)) S (μ 60 11).toNat) (i := a) (by omega)]; rfl)
      · refine tt_aload_n X rfl dX10_canGoAll_37 ?_
        refine tt_iload_n X rfl dX10_canGoAll_38 ?_
        refine tt_vi X rfl mX10_293 (q_ones l g ln ext _ ((oddN (nA (μ 69)) (nA (μ 70)) S (μ 60 11).toNat : Nat) : Int) (by omega)) (k_60 _ _) ⟨_, rfl, rfl⟩ rfl rfl (Nat.le_of_ble_eq_true rfl) (by decide) (by decide) (by decide) dX10_canGoAll_39 (fun z39 L39 μ39 hp => ?_)
        obtain ⟨rfl, e39, hz39⟩ := hp
        replace e39 := e39.symm
        subst e39
        rw [pop_cnt hol] at hz39
        refine tt_top hz39 ?_
        try simp (disch := decide) only [ot_rd, ot_rs, ot_rf, ot_ucd, ot_ucs] at hz39
        refine tt_iconst X dX10_canGoAll_42 ?_
        refine tt_icmp_ne X 59 (by first | omega | (simp (disch := decide) only [ot_rd, ot_rs, ot_rf, ot_ucd, ot_ucs]; omega)) dX10_canGoAll_43 (by decide) (fun b43 => ?_) (fun b43 => ?_)
        · refine tt_iconst X dX10_canGoAll_59 ?_
          refine tt_zret X ⟨hr.1, hr.2.1⟩ (by omega) (by decide) (by decide) dX10_canGoAll_60 ?_
          refine ⟨rfl, rfl, ?_⟩
          rw [decide_eq_false (show ¬ S = 0 by omega), decide_eq_true (show anN (pinN (nA (μ 69)) (nA (μ 70)) S (μ 60 11).toNat) (rcN (nA (μ 69)) (nA (μ 70)) S (μ 60 11).toNat (2 ^ a) (μ 60 11).toNat) = 0 by omega)]
          first
            | (rw [decide_eq_true (show oddN (nA (μ 69)) (nA (μ 70)) S (μ 60 11).toNat = 0 by omega)]; rfl)
            | (rw [decide_eq_false (show ¬ oddN (nA (μ 69)) (nA (μ 70)) S (μ 60 11).toNat = 0 by omega), decide_eq_false (show ¬ cnt (oddN (nA (μ 69)) (nA (μ 70)) S (μ 60 11).toNat) 24 = 2 by omega)]; rfl)
            | (rw [decide_eq_false (show ¬ oddN (nA (μ 69)) (nA (μ 70)) S (μ 60 11).toNat = 0 by omega), decide_eq_true (show cnt (oddN (nA (μ 69)) (nA (μ 70)) S (μ 60 11).toNat) 24 = 2 by omega), tb_one (m := oddN (nA (μ 69)) (nA (μ 70)) S (μ 60 11).toNat) (i := a) (by omega)]; rfl)
            | (rw [decide_eq_false (show ¬ oddN (nA (μ 69)) (nA (μ 70)) S (μ 60 11).toNat = 0 by omega), decide_eq_true (show cnt (oddN (nA (μ 69)) (nA (μ 70)) S (μ 60 11).toNat) 24 = 2 by omega), tb_nil (m := oddN (nA (μ 69)) (nA (μ 70)) S (μ 60 11).toNat) (i := a) (by omega)]; rfl)
        · refine tt_iload_n X rfl dX10_canGoAll_46 ?_
          refine tt_iload_n X rfl dX10_canGoAll_47 ?_
          refine tt_ishr X dX10_canGoAll_48 ?_
          refine tt_iconst X dX10_canGoAll_49 ?_
          refine tt_iand X dX10_canGoAll_50 ?_
          refine tt_top (nt_test (m := (oddN (nA (μ 69)) (nA (μ 70)) S (μ 60 11).toNat)) (i := a) (by omega) (by omega)) ?_
          refine tt_iconst X dX10_canGoAll_51 ?_
          refine tt_icmp_ne X 59 (by split <;> omega) dX10_canGoAll_52 (by decide) (fun b52 => ?_) (fun b52 => ?_)
          · refine tt_iconst X dX10_canGoAll_59 ?_
            refine tt_zret X ⟨hr.1, hr.2.1⟩ (by omega) (by decide) (by decide) dX10_canGoAll_60 ?_
            refine ⟨rfl, rfl, ?_⟩
            rw [decide_eq_false (show ¬ S = 0 by omega), decide_eq_true (show anN (pinN (nA (μ 69)) (nA (μ 70)) S (μ 60 11).toNat) (rcN (nA (μ 69)) (nA (μ 70)) S (μ 60 11).toNat (2 ^ a) (μ 60 11).toNat) = 0 by omega)]
            first
              | (rw [decide_eq_true (show oddN (nA (μ 69)) (nA (μ 70)) S (μ 60 11).toNat = 0 by omega)]; rfl)
              | (rw [decide_eq_false (show ¬ oddN (nA (μ 69)) (nA (μ 70)) S (μ 60 11).toNat = 0 by omega), decide_eq_false (show ¬ cnt (oddN (nA (μ 69)) (nA (μ 70)) S (μ 60 11).toNat) 24 = 2 by omega)]; rfl)
              | (rw [decide_eq_false (show ¬ oddN (nA (μ 69)) (nA (μ 70)) S (μ 60 11).toNat = 0 by omega), decide_eq_true (show cnt (oddN (nA (μ 69)) (nA (μ 70)) S (μ 60 11).toNat) 24 = 2 by omega), tb_one (m := oddN (nA (μ 69)) (nA (μ 70)) S (μ 60 11).toNat) (i := a) (by omega)]; rfl)
              | (rw [decide_eq_false (show ¬ oddN (nA (μ 69)) (nA (μ 70)) S (μ 60 11).toNat = 0 by omega), decide_eq_true (show cnt (oddN (nA (μ 69)) (nA (μ 70)) S (μ 60 11).toNat) 24 = 2 by omega), tb_nil (m := oddN (nA (μ 69)) (nA (μ 70)) S (μ 60 11).toNat) (i := a) (by omega)]; rfl)
          · refine tt_iconst X dX10_canGoAll_55 ?_
            refine tt_goto X 60 dX10_canGoAll_56 (by decide) ?_
            refine tt_zret X ⟨hr.1, hr.2.1⟩ (by omega) (by decide) (by decide) dX10_canGoAll_60 ?_
            refine ⟨rfl, rfl, ?_⟩
            rw [decide_eq_false (show ¬ S = 0 by omega), decide_eq_true (show anN (pinN (nA (μ 69)) (nA (μ 70)) S (μ 60 11).toNat) (rcN (nA (μ 69)) (nA (μ 70)) S (μ 60 11).toNat (2 ^ a) (μ 60 11).toNat) = 0 by omega)]
            first
              | (rw [decide_eq_true (show oddN (nA (μ 69)) (nA (μ 70)) S (μ 60 11).toNat = 0 by omega)]; rfl)
              | (rw [decide_eq_false (show ¬ oddN (nA (μ 69)) (nA (μ 70)) S (μ 60 11).toNat = 0 by omega), decide_eq_false (show ¬ cnt (oddN (nA (μ 69)) (nA (μ 70)) S (μ 60 11).toNat) 24 = 2 by omega)]; rfl)
              | (rw [decide_eq_false (show ¬ oddN (nA (μ 69)) (nA (μ 70)) S (μ 60 11).toNat = 0 by omega), decide_eq_true (show cnt (oddN (nA (μ 69)) (nA (μ 70)) S (μ 60 11).toNat) 24 = 2 by omega), tb_one (m := oddN (nA (μ 69)) (nA (μ 70)) S (μ 60 11).toNat) (i := a) (by omega)]; rfl)
              | (rw [decide_eq_false (show ¬ oddN (nA (μ 69)) (nA (μ 70)) S (μ 60 11).toNat = 0 by omega), decide_eq_true (show cnt (oddN (nA (μ 69)) (nA (μ 70)) S (μ 60 11).toNat) 24 = 2 by omega), tb_nil (m := oddN (nA (μ 69)) (nA (μ 70)) S (μ 60 11).toNat) (i := a) (by omega)]; rfl)
    · refine tt_iconst X dX10_canGoAll_31 ?_
      refine tt_zret X ⟨hr.1, hr.2.1⟩ (by omega) (by decide) (by decide) dX10_canGoAll_32 ?_
      refine ⟨rfl, rfl, ?_⟩
      rw [decide_eq_false (show ¬ S = 0 by omega), decide_eq_false (by omega)]; rfl
  · refine tt_iconst X dX10_canGoAll_4 ?_
    refine tt_zret X ⟨hr.1, hr.2.1⟩ (by omega) (by decide) (by decide) dX10_canGoAll_5 ?_
    refine ⟨rfl, rfl, ?_⟩
    rw [decide_eq_true (show S = 0 by omega)]; rfl

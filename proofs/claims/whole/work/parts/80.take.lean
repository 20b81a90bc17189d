set_option maxRecDepth 100000 in
set_option maxHeartbeats 1000000 in
theorem c_shift (l : Launch) (g : ot_G) (ln : Nat) (ext : ot_L) (μ : ot_M) (q b : Int) (hq : 0 ≤ q ∧ q < 64) (hf : -1000000 ≤ μ 46 q ∧ μ 46 q ≤ 1000000) (hb : -1000000 ≤ b ∧ b ≤ 1000000) : ot_C l g yX2_shift cX2_shift 5 none 0 0 0 [.inr 45, .inl q, .inl b] (LL ln ext) μ (ot_pv (fun L2 μ2 => L2 = LL ln ext ∧ μ2 = ot_up (ot_up (ot_uc μ 46 (up1 (μ 46) q (μ 46 q + b))) 45 3 (μ 45 3 + ((if μ 46 q + b ≠ 0 then 1 else 0) - (if μ 46 q ≠ 0 then 1 else 0)))) 45 4 (μ 45 4 + ((if μ 46 q + b < 0 then 1 else 0) - (if μ 46 q < 0 then 1 else 0))))) := by
  refine ot_enter (by decide) (Nat.le_of_ble_eq_true rfl) ?_
  intro p e s m args below meth c X hr
  refine tt_aload_n X rfl dX2_shift_0 ?_
  refine tt_getr X fX2_9 (k_45 _ _) (by decide) ⟨nofun, nofun⟩ rfl dX2_shift_1 ?_
  refine tt_iload_n X rfl dX2_shift_4 ?_
  refine tt_iaload X (k_46 _ _) (by omega) dX2_shift_5 ?_
  refine tt_istore_n X dX2_shift_6 (by decide) ?_
  refine tt_iload_n X rfl dX2_shift_7 ?_
  refine tt_iload_n X rfl dX2_shift_8 ?_
  refine tt_iadd X dX2_shift_9 ?_
  refine tt_istore X dX2_shift_10 (by decide) ?_
  refine tt_aload_n X rfl dX2_shift_12 ?_
  refine tt_getr X fX2_9 (k_45 _ _) (by decide) ⟨nofun, nofun⟩ rfl dX2_shift_13 ?_
  refine tt_iload_n X rfl dX2_shift_16 ?_
  refine tt_iload X rfl dX2_shift_17 ?_
  refine tt_iastore X (k_46 _ _) (by omega) dX2_shift_19 ?_
  refine tt_aload_n X rfl dX2_shift_20 ?_
  refine tt_dup X dX2_shift_21 ?_
  refine tt_geti X fX2_23 (k_45 _ _) (by decide) (Or.inl rfl) dX2_shift_22 ?_
  try simp (disch := decide) only [ot_rd, ot_rs, ot_rf, ot_ucd, ot_ucs]
  refine tt_iload X rfl dX2_shift_25 ?_
  refine tt_if_eq X 34 (by first | omega | (simp (disch := decide) only [ot_rd, ot_rs, ot_rf, ot_ucd, ot_ucs]; omega)) dX2_shift_27 (by decide) (fun b27 => ?_) (fun b27 => ?_)
  · refine tt_iconst X dX2_shift_34 ?_
    refine tt_iload_n X rfl dX2_shift_35 ?_
    refine tt_if_eq X 43 (by first | omega | (simp (disch := decide) only [ot_rd, ot_rs, ot_rf, ot_ucd, ot_ucs]; omega)) dX2_shift_36 (by decide) (fun b36 => ?_) (fun b36 => ?_)
    · refine tt_iconst X dX2_shift_43 ?_
      refine tt_isub X dX2_shift_44 ?_
      refine tt_iadd X dX2_shift_45 ?_
      refine tt_puti X fX2_23 kc_2 (k_45 _ _) (by decide) (fun q hq => by cases hq; rfl) rfl dX2_shift_46 ?_
      refine tt_aload_n X rfl dX2_shift_49 ?_
      refine tt_dup X dX2_shift_50 ?_
      refine tt_geti X fX2_27 (k_45 _ _) (by decide) (Or.inl rfl) dX2_shift_51 ?_
      try simp (disch := decide) only [ot_rd, ot_rs, ot_rf, ot_ucd, ot_ucs]
      refine tt_iload X rfl dX2_shift_54 ?_
      refine tt_if_ge X 63 (by first | omega | (simp (disch := decide) only [ot_rd, ot_rs, ot_rf, ot_ucd, ot_ucs]; omega)) dX2_shift_56 (by decide) (fun b56 => ?_) (fun b56 => ?_)
      · refine tt_iconst X dX2_shift_63 ?_
        refine tt_iload_n X rfl dX2_shift_64 ?_
        refine tt_if_ge X 72 (by first | omega | (simp (disch := decide) only [ot_rd, ot_rs, ot_rf, ot_ucd, ot_ucs]; omega)) dX2_shift_65 (by decide) (fun b65 => ?_) (fun b65 => ?_)
        · refine tt_iconst X dX2_shift_72 ?_
          refine tt_isub X dX2_shift_73 ?_
          refine tt_iadd X dX2_shift_74 ?_
          refine tt_puti X fX2_27 kc_2 (k_45 _ _) (by decide) (fun q hq => by cases hq; rfl) rfl dX2_shift_75 ?_
          refine tt_vret X ⟨hr.1, hr.2.1⟩ (by decide) (by decide) dX2_shift_78 ?_
          first
            | (exfalso; omega)
            | (refine ⟨rfl, ?_⟩
               (try simp (disch := decide) only [ot_rd, ot_rs, ot_rf, ot_ucd, ot_ucs, ot_rdf])
               rw [ot_up_uc (k := 46)]
               first | rw [if_pos (show μ 46 q + b ≠ 0 by omega)] | rw [if_neg (show ¬ (μ 46 q + b ≠ 0) by omega)]
               first | rw [if_pos (show μ 46 q ≠ 0 by omega)] | rw [if_neg (show ¬ (μ 46 q ≠ 0) by omega)]
               first | rw [if_pos (show μ 46 q + b < 0 by omega)] | rw [if_neg (show ¬ (μ 46 q + b < 0) by omega)]
               first | rw [if_pos (show μ 46 q < 0 by omega)] | rw [if_neg (show ¬ (μ 46 q < 0) by omega)])
        · refine tt_iconst X dX2_shift_68 ?_
          refine tt_goto X 73 dX2_shift_69 (by decide) ?_
          refine tt_isub X dX2_shift_73 ?_
          refine tt_iadd X dX2_shift_74 ?_
          refine tt_puti X fX2_27 kc_2 (k_45 _ _) (by decide) (fun q hq => by cases hq; rfl) rfl dX2_shift_75 ?_
          refine tt_vret X ⟨hr.1, hr.2.1⟩ (by decide) (by decide) dX2_shift_78 ?_
          first
            | (exfalso; omega)
            | (refine ⟨rfl, ?_⟩
               (try simp (disch := decide) only [ot_rd, ot_rs, ot_rf, ot_ucd, ot_ucs, ot_rdf])
               rw [ot_up_uc (k := 46)]
               first | rw [if_pos (show μ 46 q + b ≠ 0 by omega)] | rw [if_neg (show ¬ (μ 46 q + b ≠ 0) by omega)]
               first | rw [if_pos (show μ 46 q ≠ 0 by omega)] | rw [if_neg (show ¬ (μ 46 q ≠ 0) by omega)]
               first | rw [if_pos (show μ 46 q + b < 0 by omega)] | rw [if_neg (show ¬ (μ 46 q + b < 0) by omega)]
               first | rw [if_pos (show μ 46 q < 0 by omega)] | rw [if_neg (show ¬ (μ 46 q < 0) by omega)])
      · refine tt_iconst X dX2_shift_59 ?_
        refine tt_goto X 64 dX2_shift_60 (by decide) ?_
        refine tt_iload_n X rfl dX2_shift_64 ?_
        refine tt_if_ge X 72 (by first | omega | (simp (disch := decide) only [ot_rd, ot_rs, ot_rf, ot_ucd, ot_ucs]; omega)) dX2_shift_65 (by decide) (fun b65 => ?_) (fun b65 => ?_)
        · refine tt_iconst X dX2_shift_72 ?_
          refine tt_isub X dX2_shift_73 ?_
          refine tt_iadd X dX2_shift_74 ?_
          refine tt_puti X fX2_27 kc_2 (k_45 _ _) (by decide) (fun q hq => by cases hq; rfl) rfl dX2_shift_75 ?_
          refine tt_vret X ⟨hr.1, hr.2.1⟩ (by decide) (by decide) dX2_shift_78 ?_
          first
            | (exfalso; omega)
            | (refine ⟨rfl, ?_⟩
               (try simp (disch := decide) only [ot_rd, ot_rs, ot_rf, ot_ucd, ot_ucs, ot_rdf])
               rw [ot_up_uc (k := 46)]
               first | rw [if_pos (show μ 46 q + b ≠ 0 by omega)] | rw [if_neg (show ¬ (μ 46 q + b ≠ 0) by omega)]
               first | rw [if_pos (show μ 46 q ≠ 0 by omega)] | rw [if_neg (show ¬ (μ 46 q ≠ 0) by omega)]
               first | rw [if_pos (show μ 46 q + b < 0 by omega)] | rw [if_neg (show ¬ (μ 46 q + b < 0) by omega)]
               first | rw [if_pos (show μ 46 q < 0 by omega)] | rw [if_neg (show ¬ (μ 46 q < 0) by omega)])
        · refine tt_iconst X dX2_shift_68 ?_
          refine tt_goto X 73 dX2_shift_69 (by decide) ?_
          refine tt_isub X dX2_shift_73 ?_
          refine tt_iadd X dX2_shift_74 ?_
          refine tt_puti X fX2_27 kc_2 (k_45 _ _) (by decide) (fun q hq => by cases hq; rfl) rfl dX2_shift_75 ?_
          refine tt_vret X ⟨hr.1, hr.2.1⟩ (by decide) (by decide) dX2_shift_78 ?_
          first
            | (exfalso; omega)
            | (refine ⟨rfl, ?_⟩
               (try simp (disch := decide) only [ot_rd, ot_rs, ot_rf, ot_ucd, ot_ucs, ot_rdf])
               rw [ot_up_uc (k := 46)]
               first | rw [if_pos (show μ 46 q + b ≠ 0 by omega)] | rw [if_neg (show ¬ (μ 46 q + b ≠ 0) by omega)]
               first | rw [if_pos (show μ 46 q ≠ 0 by omega)] | rw [if_neg (show ¬ (μ 46 q ≠ 0) by omega)]
               first | rw [if_pos (show μ 46 q + b < 0 by omega)] | rw [if_neg (show ¬ (μ 46 q + b < 0) by omega)]
               first | rw [if_pos (show μ 46 q < 0 by omega)] | rw [if_neg (show ¬ (μ 46 q < 0) by omega)])
    · refine tt_iconst X dX2_shift_39 ?_
      refine tt_goto X 44 dX2_shift_40 (by decide) ?_
      refine tt_isub X dX2_shift_44 ?_
      refine tt_iadd X dX2_shift_45 ?_
      refine tt_puti X fX2_23 kc_2 (k_45 _ _) (by decide) (fun q hq => by cases hq; rfl) rfl dX2_shift_46 ?_
      refine tt_aload_n X rfl dX2_shift_49 ?_
      refine tt_dup X dX2_shift_50 ?_
      refine tt_geti X fX2_27 (k_45 _ _) (by decide) (Or.inl rfl) dX2_shift_51 ?_
      try simp (disch := decide) only [ot_rd, ot_rs, ot_rf, ot_ucd, ot_ucs]
      refine tt_iload X rfl dX2_shift_54 ?_
      refine tt_if_ge X 63 (by first | omega | (simp (disch := decide) only [ot_rd, ot_rs, ot_rf, ot_ucd, ot_ucs]; omega)) dX2_shift_56 (by decide) (fun b56 => ?_) (fun b56 => ?_)
      · refine tt_iconst X dX2_shift_63 ?_
        refine tt_iload_n X rfl dX2_shift_64 ?_
        refine tt_if_ge X 72 (by first | omega | (simp (disch := decide) only [ot_rd, ot_rs, ot_rf, ot_ucd, ot_ucs]; omega)) dX2_shift_65 (by decide) (fun b65 => ?_) (fun b65 => ?_)
        · refine tt_iconst X dX2_shift_72 ?_
          refine tt_isub X dX2_shift_73 ?_
          refine tt_iadd X dX2_shift_74 ?_
          refine tt_puti X fX2_27 kc_2 (k_45 _ _) (by decide) (fun q hq => by cases hq; rfl) rfl dX2_shift_75 ?_
          refine tt_vret X ⟨hr.1, hr.2.1⟩ (by decide) (by decide) dX2_shift_78 ?_
          first
            | (exfalso; omega)
            | (refine ⟨rfl, ?_⟩
               (try simp (disch := decide) only [ot_rd, ot_rs, ot_rf, ot_ucd, ot_ucs, ot_rdf])
               rw [ot_up_uc (k := 46)]
               first | rw [if_pos (show μ 46 q + b ≠ 0 by omega)] | rw [if_neg (show ¬ (μ 46 q + b ≠ 0) by omega)]
               first | rw [if_pos (show μ 46 q ≠ 0 by omega)] | rw [if_neg (show ¬ (μ 46 q ≠ 0) by omega)]
               first | rw [if_pos (show μ 46 q + b < 0 by omega)] | rw [if_neg (show ¬ (μ 46 q + b < 0) by omega)]
               first | rw [if_pos (show μ 46 q < 0 by omega)] | rw [if_neg (show ¬ (μ 46 q < 0) by omega)])
        · refine tt_iconst X dX2_shift_68 ?_
          refine tt_goto X 73 dX2_shift_69 (by decide) ?_
          refine tt_isub X dX2_shift_73 ?_
          refine tt_iadd X dX2_shift_74 ?_
          refine tt_puti X fX2_27 kc_2 (k_45 _ _) (by decide) (fun q hq => by cases hq; rfl) rfl dX2_shift_75 ?_
          refine tt_vret X ⟨hr.1, hr.2.1⟩ (by decide) (by decide) dX2_shift_78 ?_
          first
            | (exfalso; omega)
            | (refine ⟨rfl, ?_⟩
               (try simp (disch := decide) only [ot_rd, ot_rs, ot_rf, ot_ucd, ot_ucs, ot_rdf])
               rw [ot_up_uc (k := 46)]
               first | rw [if_pos (show μ 46 q + b ≠ 0 by omega)] | rw [if_neg (show ¬ (μ 46 q + b ≠ 0) by omega)]
               first | rw [if_pos (show μ 46 q ≠ 0 by omega)] | rw [if_neg (show ¬ (μ 46 q ≠ 0) by omega)]
               first | rw [if_pos (show μ 46 q + b < 0 by omega)] | rw [if_neg (show ¬ (μ 46 q + b < 0) by omega)]
               first | rw [if_pos (show μ 46 q < 0 by omega)] | rw [if_neg (show ¬ (μ 46 q < 0) by omega)])
      · refine tt_iconst X dX2_shift_59 ?_
        refine tt_goto X 64 dX2_shift_60 (by decide) ?_
        refine tt_iload_n X rfl dX2_shift_64 ?_
        refine tt_if_ge X 72 (by first | omega | (simp (disch := decide) only [ot_rd, ot_rs, ot_rf, ot_ucd, ot_ucs]; omega)) dX2_shift_65 (by decide) (fun b65 => ?_) (fun b65 => ?_)
        · refine tt_iconst X dX2_shift_72 ?_
          refine tt_isub X dX2_shift_73 ?_
          refine tt_iadd X dX2_shift_74 ?_
          refine tt_puti X fX2_27 kc_2 (k_45 _ _) (by decide) (fun q hq => by cases hq; rfl) rfl dX2_shift_75 ?_
          refine tt_vret X ⟨hr.1, hr.2.1⟩ (by decide) (by decide) dX2_shift_78 ?_
          first
            | (exfalso; omega)
            | (refine ⟨rfl, ?_⟩
               (try simp (disch := decide) only [ot_rd, ot_rs, ot_rf, ot_ucd, ot_ucs, ot_rdf])
               rw [ot_up_uc (k := 46)]
               first | rw [if_pos (show μ 46 q + b ≠ 0 by omega)] | rw [if_neg (show ¬ (μ 46 q + b ≠ 0) by omega)]
               first | rw [if_pos (show μ 46 q ≠ 0 by omega)] | rw [if_neg (show ¬ (μ 46 q ≠ 0) by omega)]
               first | rw [if_pos (show μ 46 q + b < 0 by omega)] | rw [if_neg (show ¬ (μ 46 q + b < 0) by omega)]
               first | rw [if_pos (show μ 46 q < 0 by omega)] | rw [if_neg (show ¬ (μ 46 q < 0) by omega)])
        · refine tt_iconst X dX2_shift_68 ?_
          refine tt_goto X 73 dX2_shift_69 (by decide) ?_
          refine tt_isub X dX2_shift_73 ?_
          refine tt_iadd X dX2_shift_74 ?_
          refine tt_puti X fX2_27 kc_2 (k_45 _ _) (by decide) (fun q hq => by cases hq; rfl) rfl dX2_shift_75 ?_
          refine tt_vret X ⟨hr.1, hr.2.1⟩ (by decide) (by decide) dX2_shift_78 ?_
          first
            | (exfalso; omega)
            | (refine ⟨rfl, ?_⟩
               (try simp (disch := decide) only [ot_rd, ot_rs, ot_rf, ot_ucd, ot_ucs, ot_rdf])
               rw [ot_up_uc (k := 46)]
               first | rw [if_pos (show μ 46 q + b ≠ 0 by omega)] | rw [if_neg (show ¬ (μ 46 q + b ≠ 0) by omega)]
               first | rw [if_pos (show μ 46 q ≠ 0 by omega)] | rw [if_neg (show ¬ (μ 46 q ≠ 0) by omega)]
               first | rw [if_pos (show μ 46 q + b < 0 by omega)] | rw [if_neg (show ¬ (μ 46 q + b < 0) by omega)]
               first | rw [if_pos (show μ 46 q < 0 by omega)] | rw [if_neg (show ¬ (μ 46 q < 0) by omega)])
  · refine tt_iconst X dX2_shift_30 ?_
    refine tt_goto X 35 dX2_shift_31 (by decide) ?_
    refine tt_iload_n X rfl dX2_shift_35 ?_
    refine tt_if_eq X 43 (by first | omega | (simp (disch := decide) only [ot_rd, ot_rs, ot_rf, ot_ucd, ot_ucs]; omega)) dX2_shift_36 (by decide) (fun b36 => ?_) (fun b36 => ?_)
    · refine tt_iconst X dX2_shift_43 ?_
      refine tt_isub X dX2_shift_44 ?_
      refine tt_iadd X dX2_shift_45 ?_
      refine tt_puti X fX2_23 kc_2 (k_45 _ _) (by decide) (fun q hq => by cases hq; rfl) rfl dX2_shift_46 ?_
      refine tt_aload_n X rfl dX2_shift_49 ?_
      refine tt_dup X dX2_shift_50 ?_
      refine tt_geti X fX2_27 (k_45 _ _) (by decide) (Or.inl rfl) dX2_shift_51 ?_
      try simp (disch := decide) only [ot_rd, ot_rs, ot_rf, ot_ucd, ot_ucs]
      refine tt_iload X rfl dX2_shift_54 ?_
      refine tt_if_ge X 63 (by first | omega | (simp (disch := decide) only [ot_rd, ot_rs, ot_rf, ot_ucd, ot_ucs]; omega)) dX2_shift_56 (by decide) (fun b56 => ?_) (fun b56 => ?_)
      · refine tt_iconst X dX2_shift_63 ?_
        refine tt_iload_n X rfl dX2_shift_64 ?_
        refine tt_if_ge X 72 (by first | omega | (simp (disch := decide) only [ot_rd, ot_rs, ot_rf, ot_ucd, ot_ucs]; omega)) dX2_shift_65 (by decide) (fun b65 => ?_) (fun b65 => ?_)
        · refine tt_iconst X dX2_shift_72 ?_
          refine tt_isub X dX2_shift_73 ?_
          refine tt_iadd X dX2_shift_74 ?_
          refine tt_puti X fX2_27 kc_2 (k_45 _ _) (by decide) (fun q hq => by cases hq; rfl) rfl dX2_shift_75 ?_
          refine tt_vret X ⟨hr.1, hr.2.1⟩ (by decide) (by decide) dX2_shift_78 ?_
          first
            | (exfalso; omega)
            | (refine ⟨rfl, ?_⟩
               (try simp (disch := decide) only [ot_rd, ot_rs, ot_rf, ot_ucd, ot_ucs, ot_rdf])
               rw [ot_up_uc (k := 46)]
               first | rw [if_pos (show μ 46 q + b ≠ 0 by omega)] | rw [if_neg (show ¬ (μ 46 q + b ≠ 0) by omega)]
               first | rw [if_pos (show μ 46 q ≠ 0 by omega)] | rw [if_neg (show ¬ (μ 46 q ≠ 0) by omega)]
               first | rw [if_pos (show μ 46 q + b < 0 by omega)] | rw [if_neg (show ¬ (μ 46 q + b < 0) by omega)]
               first | rw [if_pos (show μ 46 q < 0 by omega)] | rw [if_neg (show ¬ (μ 46 q < 0) by omega)])
        · refine tt_iconst X dX2_shift_68 ?_
          refine tt_goto X 73 dX2_shift_69 (by decide) ?_
          refine tt_isub X dX2_shift_73 ?_
          refine tt_iadd X dX2_shift_74 ?_
          refine tt_puti X fX2_27 kc_2 (k_45 _ _) (by decide) (fun q hq => by cases hq; rfl) rfl dX2_shift_75 ?_
          refine tt_vret X ⟨hr.1, hr.2.1⟩ (by decide) (by decide) dX2_shift_78 ?_
          first
            | (exfalso; omega)
            | (refine ⟨rfl, ?_⟩
               (try simp (disch := decide) only [ot_rd, ot_rs, ot_rf, ot_ucd, ot_ucs, ot_rdf])
               rw [ot_up_uc (k := 46)]
               first | rw [if_pos (show μ 46 q + b ≠ 0 by omega)] | rw [if_neg (show ¬ (μ 46 q + b ≠ 0) by omega)]
               first | rw [if_pos (show μ 46 q ≠ 0 by omega)] | rw [if_neg (show ¬ (μ 46 q ≠ 0) by omega)]
               first | rw [if_pos (show μ 46 q + b < 0 by omega)] | rw [if_neg (show ¬ (μ 46 q + b < 0) by omega)]
               first | rw [if_pos (show μ 46 q < 0 by omega)] | rw [if_neg (show ¬ (μ 46 q < 0) by omega)])
      · refine tt_iconst X dX2_shift_59 ?_
        refine tt_goto X 64 dX2_shift_60 (by decide) ?_
        refine tt_iload_n X rfl dX2_shift_64 ?_
        refine tt_if_ge X 72 (by first | omega | (simp (disch := decide) only [ot_rd, ot_rs, ot_rf, ot_ucd, ot_ucs]; omega)) dX2_shift_65 (by decide) (fun b65 => ?_) (fun b65 => ?_)
        · refine tt_iconst X dX2_shift_72 ?_
          refine tt_isub X dX2_shift_73 ?_
          refine tt_iadd X dX2_shift_74 ?_
          refine tt_puti X fX2_27 kc_2 (k_45 _ _) (by decide) (fun q hq => by cases hq; rfl) rfl dX2_shift_75 ?_
          refine tt_vret X ⟨hr.1, hr.2.1⟩ (by decide) (by decide) dX2_shift_78 ?_
          first
            | (exfalso; omega)
            | (refine ⟨rfl, ?_⟩
               (try simp (disch := decide) only [ot_rd, ot_rs, ot_rf, ot_ucd, ot_ucs, ot_rdf])
               rw [ot_up_uc (k := 46)]
               first | rw [if_pos (show μ 46 q + b ≠ 0 by omega)] | rw [if_neg (show ¬ (μ 46 q + b ≠ 0) by omega)]
               first | rw [if_pos (show μ 46 q ≠ 0 by omega)] | rw [if_neg (show ¬ (μ 46 q ≠ 0) by omega)]
               first | rw [if_pos (show μ 46 q + b < 0 by omega)] | rw [if_neg (show ¬ (μ 46 q + b < 0) by omega)]
               first | rw [if_pos (show μ 46 q < 0 by omega)] | rw [if_neg (show ¬ (μ 46 q < 0) by omega)])
        · refine tt_iconst X dX2_shift_68 ?_
          refine tt_goto X 73 dX2_shift_69 (by decide) ?_
          refine tt_isub X dX2_shift_73 ?_
          refine tt_iadd X dX2_shift_74 ?_
          refine tt_puti X fX2_27 kc_2 (k_45 _ _) (by decide) (fun q hq => by cases hq; rfl) rfl dX2_shift_75 ?_
          refine tt_vret X ⟨hr.1, hr.2.1⟩ (by decide) (by decide) dX2_shift_78 ?_
          first
            | (exfalso; omega)
            | (refine ⟨rfl, ?_⟩
               (try simp (disch := decide) only [ot_rd, ot_rs, ot_rf, ot_ucd, ot_ucs, ot_rdf])
               rw [ot_up_uc (k := 46)]
               first | rw [if_pos (show μ 46 q + b ≠ 0 by omega)] | rw [if_neg (show ¬ (μ 46 q + b ≠ 0) by omega)]
               first | rw [if_pos (show μ 46 q ≠ 0 by omega)] | rw [if_neg (show ¬ (μ 46 q ≠ 0) by omega)]
               first | rw [if_pos (show μ 46 q + b < 0 by omega)] | rw [if_neg (show ¬ (μ 46 q + b < 0) by omega)]
               first | rw [if_pos (show μ 46 q < 0 by omega)] | rw [if_neg (show ¬ (μ 46 q < 0) by omega)])
    · refine tt_iconst X dX2_shift_39 ?_
      refine tt_goto X 44 dX2_shift_40 (by decide) ?_
      refine tt_isub X dX2_shift_44 ?_
      refine tt_iadd X dX2_shift_45 ?_
      refine tt_puti X fX2_23 kc_2 (k_45 _ _) (by decide) (fun q hq => by cases hq; rfl) rfl dX2_shift_46 ?_
      refine tt_aload_n X rfl dX2_shift_49 ?_
      refine tt_dup X dX2_shift_50 ?_
      refine tt_geti X fX2_27 (k_45 _ _) (by decide) (Or.inl rfl) dX2_shift_51 ?_
      try simp (disch := decide) only [ot_rd, ot_rs, ot_rf, ot_ucd, ot_ucs]
      refine tt_iload X rfl dX2_shift_54 ?_
      refine tt_if_ge X 63 (by first | omega | (simp (disch := decide) only [ot_rd, ot_rs, ot_rf, ot_ucd, ot_ucs]; omega)) dX2_shift_56 (by decide) (fun b56 => ?_) (fun b56 => ?_)
      · refine tt_iconst X dX2_shift_63 ?_
        refine tt_iload_n X rfl dX2_shift_64 ?_
        refine tt_if_ge X 72 (by first | omega | (simp (disch := decide) only [ot_rd, ot_rs, ot_rf, ot_ucd, ot_ucs]; omega)) dX2_shift_65 (by decide) (fun b65 => ?_) (fun b65 => ?_)
        · refine tt_iconst X dX2_shift_72 ?_
          refine tt_isub X dX2_shift_73 ?_
          refine tt_iadd X dX2_shift_74 ?_
          refine tt_puti X fX2_27 kc_2 (k_45 _ _) (by decide) (fun q hq => by cases hq; rfl) rfl dX2_shift_75 ?_
          refine tt_vret X ⟨hr.1, hr.2.1⟩ (by decide) (by decide) dX2_shift_78 ?_
          first
            | (exfalso; omega)
            | (refine ⟨rfl, ?_⟩
               (try simp (disch := decide) only [ot_rd, ot_rs, ot_rf, ot_ucd, ot_ucs, ot_rdf])
               rw [ot_up_uc (k := 46)]
               first | rw [if_pos (show μ 46 q + b ≠ 0 by omega)] | rw [if_neg (show ¬ (μ 46 q + b ≠ 0) by omega)]
               first | rw [if_pos (show μ 46 q ≠ 0 by omega)] | rw [if_neg (show ¬ (μ 46 q ≠ 0) by omega)]
               first | rw [if_pos (show μ 46 q + b < 0 by omega)] | rw [if_neg (show ¬ (μ 46 q + b < 0) by omega)]
               first | rw [if_pos (show μ 46 q < 0 by omega)] | rw [if_neg (show ¬ (μ 46 q < 0) by omega)])
        · refine tt_iconst X dX2_shift_68 ?_
          refine tt_goto X 73 dX2_shift_69 (by decide) ?_
          refine tt_isub X dX2_shift_73 ?_
          refine tt_iadd X dX2_shift_74 ?_
          refine tt_puti X fX2_27 kc_2 (k_45 _ _) (by decide) (fun q hq => by cases hq; rfl) rfl dX2_shift_75 ?_
          refine tt_vret X ⟨hr.1, hr.2.1⟩ (by decide) (by decide) dX2_shift_78 ?_
          first
            | (exfalso; omega)
            | (refine ⟨rfl, ?_⟩
               (try simp (disch := decide) only [ot_rd, ot_rs, ot_rf, ot_ucd, ot_ucs, ot_rdf])
               rw [ot_up_uc (k := 46)]
               first | rw [if_pos (show μ 46 q + b ≠ 0 by omega)] | rw [if_neg (show ¬ (μ 46 q + b ≠ 0) by omega)]
               first | rw [if_pos (show μ 46 q ≠ 0 by omega)] | rw [if_neg (show ¬ (μ 46 q ≠ 0) by omega)]
               first | rw [if_pos (show μ 46 q + b < 0 by omega)] | rw [if_neg (show ¬ (μ 46 q + b < 0) by omega)]
               first | rw [if_pos (show μ 46 q < 0 by omega)] | rw [if_neg (show ¬ (μ 46 q < 0) by omega)])
      · refine tt_iconst X dX2_shift_59 ?_
        refine tt_goto X 64 dX2_shift_60 (by decide) ?_
        refine tt_iload_n X rfl dX2_shift_64 ?_
        refine tt_if_ge X 72 (by first | omega | (simp (disch := decide) only [ot_rd, ot_rs, ot_rf, ot_ucd, ot_ucs]; omega)) dX2_shift_65 (by decide) (fun b65 => ?_) (fun b65 => ?_)
        · refine tt_iconst X dX2_shift_72 ?_
          refine tt_isub X dX2_shift_73 ?_
          refine tt_iadd X dX2_shift_74 ?_
          refine tt_puti X fX2_27 kc_2 (k_45 _ _) (by decide) (fun q hq => by cases hq; rfl) rfl dX2_shift_75 ?_
          refine tt_vret X ⟨hr.1, hr.2.1⟩ (by decide) (by decide) dX2_shift_78 ?_
          first
            | (exfalso; omega)
            | (refine ⟨rfl, ?_⟩
               (try simp (disch := decide) only [ot_rd, ot_rs, ot_rf, ot_ucd, ot_ucs, ot_rdf])
               rw [ot_up_uc (k := 46)]
               first | rw [if_pos (show μ 46 q + b ≠ 0 by omega)] | rw [if_neg (show ¬ (μ 46 q + b ≠ 0) by omega)]
               first | rw [if_pos (show μ 46 q ≠ 0 by omega)] | rw [if_neg (show ¬ (μ 46 q ≠ 0) by omega)]
               first | rw [if_pos (show μ 46 q + b < 0 by omega)] | rw [if_neg (show ¬ (μ 46 q + b < 0) by omega)]
               first | rw [if_pos (show μ 46 q < 0 by omega)] | rw [if_neg (show ¬ (μ 46 q < 0) by omega)])
        · refine tt_iconst X dX2_shift_68 ?_
          refine tt_goto X 73 dX2_shift_69 (by decide) ?_
          refine tt_isub X dX2_shift_73 ?_
          refine tt_iadd X dX2_shift_74 ?_
          refine tt_puti X fX2_27 kc_2 (k_45 _ _) (by decide) (fun q hq => by cases hq; rfl) rfl dX2_shift_75 ?_
          refine tt_vret X ⟨hr.1, hr.2.1⟩ (by decide) (by decide) dX2_shift_78 ?_
          first
            | (exfalso; omega)
            | (refine ⟨rfl, ?_⟩
               (try simp (disch := decide) only [ot_rd, ot_rs, ot_rf, ot_ucd, ot_ucs, ot_rdf])
               rw [ot_up_uc (k := 46)]
               first | rw [if_pos (show μ 46 q + b ≠ 0 by omega)] | rw [if_neg (show ¬ (μ 46 q + b ≠ 0) by omega)]
               first | rw [if_pos (show μ 46 q ≠ 0 by omega)] | rw [if_neg (show ¬ (μ 46 q ≠ 0) by omega)]
               first | rw [if_pos (show μ 46 q + b < 0 by omega)] | rw [if_neg (show ¬ (μ 46 q + b < 0) by omega)]
               first | rw [if_pos (show μ 46 q < 0 by omega)] | rw [if_neg (show ¬ (μ 46 q < 0) by omega)])
set_option maxRecDepth 100000 in
set_option maxHeartbeats 1000000 in
theorem c_take (l : Launch) (g : ot_G) (ln : Nat) (ext : ot_L) (μ : ot_M) (j0 x : Int) (hG : gPin (μ 1 11) (μ 1 12) (μ 2) (μ 3)) (hCh : gChd (μ 1 11) (μ 1 12) (μ 2) (μ 3) (μ 38) (μ 39)) (hj : 0 ≤ j0 ∧ j0 < 20) (ha : 0 ≤ (μ 9 j0) ∧ (μ 9 j0) < μ 1 12) (hb : 0 ≤ (μ 10 j0) ∧ (μ 10 j0) < μ 1 12) (hab : (μ 9 j0) ≠ (μ 10 j0)) (hx : x = 1 ∨ x = -1) (hf : ∀ k, 0 ≤ k → k < 64 → -10000 ≤ μ 46 k ∧ μ 46 k ≤ 20000) (htl : ∀ k, 0 ≤ k → k < 64 → -1 ≤ μ 11 k ∧ μ 11 k ≤ 9999) (h3 : μ 45 3 = cntN (μ 46)) (h4 : μ 45 4 = cntO (μ 46)) : ot_C l g yX2_take cX2_take 6 none 4 0 0 [.inr 45, .inl j0, .inl x] (LL ln ext) μ (ot_pv (fun L2 μ2 => L2 = LL ln ext ∧ eqx [38, 39, 45, 46] μ μ2 ∧ gChd (μ 1 11) (μ 1 12) (μ 2) (μ 3) (μ2 38) (μ2 39) ∧ (∀ j, j ≠ 3 → j ≠ 4 → μ2 45 j = μ 45 j) ∧ (∀ k, μ2 46 k = if μ 11 k = -1 then μ 46 k else μ 46 k + x * smp (μ 1 11) (μ 2) (μ 3) (μ 9 j0) (μ 10 j0) k) ∧ μ2 45 3 = cntN (μ2 46) ∧ μ2 45 4 = cntO (μ2 46))) := by
  refine ot_enter (by decide) (Nat.le_of_ble_eq_true rfl) ?_
  intro p e s m args below meth c X hr
  have hNn := hG.2.1
  have hch := chN_in (a := (μ 9 j0)) (b := (μ 10 j0)) (by omega) (by omega) (by omega)
  refine tt_aload_n X rfl dX2_take_0 ?_
  refine tt_getr X fX2_19 (k_45 _ _) (by decide) ⟨nofun, nofun⟩ rfl dX2_take_1 ?_
  refine tt_aload_n X rfl dX2_take_4 ?_
  refine tt_getr X fX2_15 (k_45 _ _) (by decide) ⟨nofun, nofun⟩ rfl dX2_take_5 ?_
  refine tt_getr X fX2_67 (k_1 _ _) (by decide) ⟨nofun, nofun⟩ rfl dX2_take_8 ?_
  refine tt_iload_n X rfl dX2_take_11 ?_
  refine tt_iaload X (k_9 _ _) (by omega) dX2_take_12 ?_
  refine tt_aload_n X rfl dX2_take_13 ?_
  refine tt_getr X fX2_15 (k_45 _ _) (by decide) ⟨nofun, nofun⟩ rfl dX2_take_14 ?_
  refine tt_getr X fX2_70 (k_1 _ _) (by decide) ⟨nofun, nofun⟩ rfl dX2_take_17 ?_
  refine tt_iload_n X rfl dX2_take_20 ?_
  refine tt_iaload X (k_10 _ _) (by omega) dX2_take_21 ?_
  refine tt_vi X rfl mX2_73 (c_measured l g ln ext _ _ _ hG hCh ha hb hab) (k_37 _ _) ⟨_, rfl, rfl⟩ rfl rfl (Nat.le_of_ble_eq_true rfl) (by decide) (by decide) (by decide) dX2_take_22 (fun z22 L22 μ22 hp => ?_)
  obtain ⟨rfl, hz22, f, z, rfl, hcf, hrow⟩ := hp
  subst hz22
  have hr1 := hrow.1
  refine tt_istore_n X dX2_take_25 (by decide) ?_
  refine tt_iconst X dX2_take_26 ?_
  refine tt_istore X dX2_take_27 (by decide) ?_
  refine tt_mem (μ' := ot_up (ot_up (ot_uc (ot_uc (ot_uc μ 38 f) 39 z) 46 (fun k => if μ 11 k = -1 then μ 46 k else μ 46 k + x * clS f (chN (μ 9 j0) (μ 10 j0) * 16) k ((0 : Int)).toNat)) 45 3 (cntN (fun k => if μ 11 k = -1 then μ 46 k else μ 46 k + x * clS f (chN (μ 9 j0) (μ 10 j0) * 16) k ((0 : Int)).toNat))) 45 4 (cntO (fun k => if μ 11 k = -1 then μ 46 k else μ 46 k + x * clS f (chN (μ 9 j0) (μ 10 j0) * 16) k ((0 : Int)).toNat))) (by rw [show (fun k => if μ 11 k = -1 then μ 46 k else μ 46 k + x * clS f (chN (μ 9 j0) (μ 10 j0) * 16) k ((0 : Int)).toNat) = μ 46 from funext fun k => by by_cases w : μ 11 k = -1 <;> simp [w, clS, sumN], ← h3, ← h4]; funext u v; by_cases u1 : u = 45 <;> by_cases u2 : u = 46 <;> by_cases u3 : u = 38 <;> by_cases u4 : u = 39 <;> by_cases v1 : v = 3 <;> by_cases v2 : v = 4 <;> simp_all [ot_up, ot_uc]) ?_
  refine tt_loc [(0, _), (1, _), (2, _), (3, _), (4, _)] ⟨rfl, rfl, rfl, rfl, rfl, trivial⟩ ?_
  refine tt_loop (α := Int) (fun i => (z (chN (μ 9 j0) (μ 10 j0)) - i).toNat) (fun i => 0 ≤ i ∧ i ≤ z (chN (μ 9 j0) (μ 10 j0))) (fun i => ot_up (ot_up (ot_uc (ot_uc (ot_uc μ 38 f) 39 z) 46 (fun k => if μ 11 k = -1 then μ 46 k else μ 46 k + x * clS f (chN (μ 9 j0) (μ 10 j0) * 16) k (i).toNat)) 45 3 (cntN (fun k => if μ 11 k = -1 then μ 46 k else μ 46 k + x * clS f (chN (μ 9 j0) (μ 10 j0) * 16) k (i).toNat))) 45 4 (cntO (fun k => if μ 11 k = -1 then μ 46 k else μ 46 k + x * clS f (chN (μ 9 j0) (μ 10 j0) * 16) k (i).toNat))) (fun i => [(0, .inr 45), (1, .inl j0), (2, .inl x), (3, .inl (chN (μ 9 j0) (μ 10 j0))), (4, .inl i)]) 0 (by omega) ?_
  intro i hI ih
  try dsimp only at hI ih ⊢
  refine tt_iload X rfl dX2_take_29 ?_
  refine tt_aload_n X rfl dX2_take_31 ?_
  refine tt_getr X fX2_19 (k_45 _ _) (by decide) ⟨nofun, nofun⟩ rfl dX2_take_32 ?_
  refine tt_iload_n X rfl dX2_take_35 ?_
  refine tt_vi X rfl mX2_78 (c_sizeOf l g ln ext _ _ (by omega)) (k_37 _ _) ⟨_, rfl, rfl⟩ rfl rfl (Nat.le_of_ble_eq_true rfl) (by decide) (by decide) (by decide) dX2_take_36 (fun z36 L36 μ36 hp => ?_)
  obtain ⟨rfl, e36, hz36⟩ := hp
  replace e36 := e36.symm
  subst e36
  simp (disch := decide) only [ot_rd, ot_rs, ot_rf, ot_ucd, ot_ucs, ot_rdf] at hz36
  refine tt_top hz36 ?_
  refine tt_icmp_ge X 92 (by first | omega | (simp (disch := decide) only [ot_rd, ot_rs, ot_rf, ot_ucd, ot_ucs]; omega)) dX2_take_39 (by decide) (fun b39 => ?_) (fun b39 => ?_)
  · refine tt_vret X ⟨hr.1, hr.2.1⟩ (by decide) (by decide) dX2_take_92 ?_
    have hFF : (fun k => if μ 11 k = -1 then μ 46 k else μ 46 k + x * clS f (chN (μ 9 j0) (μ 10 j0) * 16) k (i).toNat) = (fun k => if μ 11 k = -1 then μ 46 k else μ 46 k + x * smp (μ 1 11) (μ 2) (μ 3) (μ 9 j0) (μ 10 j0) k) := by
      funext k
      rw [show i = z (chN (μ 9 j0) (μ 10 j0)) by omega, gRow_smp hrow k]
    rw [hFF]
    refine ⟨rfl, ?_, ?_, ?_, ?_, ?_, ?_⟩
    · repeat first | exact eqx_rfl _ _ | refine eqx_uc ?_ (by decide) | refine eqx_up ?_ (by decide)
    · simp (disch := decide) only [ot_rd, ot_rs, ot_rf, ot_ucd, ot_ucs, ot_rdf]; exact hcf
    · intro j j1 j2
      rw [ot_rf j2, ot_rf j1]; simp (disch := decide) only [ot_rd, ot_rs, ot_rf, ot_ucd, ot_ucs, ot_rdf]
    · intro k; simp (disch := decide) only [ot_rd, ot_rs, ot_rf, ot_ucd, ot_ucs, ot_rdf]
    · simp (disch := decide) only [ot_rd, ot_rs, ot_rf, ot_ucd, ot_ucs, ot_rdf]
    · simp (disch := decide) only [ot_rd, ot_rs, ot_rf, ot_ucd, ot_ucs, ot_rdf]
  · have hrc := hrow.2.1 i (by omega) (by omega)
    refine tt_aload_n X rfl dX2_take_42 ?_
    refine tt_getr X fX2_19 (k_45 _ _) (by decide) ⟨nofun, nofun⟩ rfl dX2_take_43 ?_
    refine tt_iload_n X rfl dX2_take_46 ?_
    refine tt_iload X rfl dX2_take_47 ?_
    refine tt_vi X rfl mX2_82 (c_squareOf l g ln ext _ _ _ (by omega) (by omega) (by simp (disch := decide) only [ot_rd, ot_rs, ot_rf, ot_ucd, ot_ucs, ot_rdf]; exact hrc.1)) (k_37 _ _) ⟨_, rfl, rfl⟩ rfl rfl (Nat.le_of_ble_eq_true rfl) (by decide) (by decide) (by decide) dX2_take_49 (fun z49 L49 μ49 hp => ?_)
    obtain ⟨rfl, e49, hz49⟩ := hp
    replace e49 := e49.symm
    subst e49
    simp (disch := decide) only [ot_rd, ot_rs, ot_rf, ot_ucd, ot_ucs, ot_rdf] at hz49
    have hq := htl z49 (by omega) (by omega)
    refine tt_istore X dX2_take_52 (by decide) ?_
    refine tt_aload_n X rfl dX2_take_54 ?_
    refine tt_getr X fX2_15 (k_45 _ _) (by decide) ⟨nofun, nofun⟩ rfl dX2_take_55 ?_
    refine tt_getr X fX2_30 (k_1 _ _) (by decide) ⟨nofun, nofun⟩ rfl dX2_take_58 ?_
    refine tt_iload X rfl dX2_take_61 ?_
    refine tt_iaload X (k_11 _ _) (by first | omega | (simp (disch := decide) only [ot_rd, ot_rs, ot_rf, ot_ucd, ot_ucs]; omega)) dX2_take_63 ?_
    try simp (disch := decide) only [ot_rd, ot_rs, ot_rf, ot_ucd, ot_ucs]
    refine tt_iconst X dX2_take_64 ?_
    refine tt_icmp_eq X 86 (by first | omega | (simp (disch := decide) only [ot_rd, ot_rs, ot_rf, ot_ucd, ot_ucs]; omega)) dX2_take_65 (by decide) (fun b65 => ?_) (fun b65 => ?_)
    · refine tt_iinc X dX2_take_86 rfl (by decide) ?_
      refine tt_goto X 29 dX2_take_89 (by decide) ?_
      refine tt_loc [(0, _), (1, _), (2, _), (3, _), (4, _)] ⟨rfl, rfl, rfl, rfl, rfl, trivial⟩ ?_
      have e := fun k => sumN_toNat (fun c => if f ((chN (μ 9 j0) (μ 10 j0) * 16) + c) / 16 = k then f ((chN (μ 9 j0) (μ 10 j0) * 16) + c) % 16 else 0) hI.1
      replace e : ∀ k, clS f (chN (μ 9 j0) (μ 10 j0) * 16) k (i + 1).toNat = clS f (chN (μ 9 j0) (μ 10 j0) * 16) k i.toNat + (if f ((chN (μ 9 j0) (μ 10 j0) * 16) + i) / 16 = k then f ((chN (μ 9 j0) (μ 10 j0) * 16) + i) % 16 else 0) := e
      first
        | (refine tt_mem (μ' := ot_up (ot_up (ot_uc (ot_uc (ot_uc μ 38 f) 39 z) 46 (fun k => if μ 11 k = -1 then μ 46 k else μ 46 k + x * clS f (chN (μ 9 j0) (μ 10 j0) * 16) k (i + 1).toNat)) 45 3 (cntN (fun k => if μ 11 k = -1 then μ 46 k else μ 46 k + x * clS f (chN (μ 9 j0) (μ 10 j0) * 16) k (i + 1).toNat))) 45 4 (cntO (fun k => if μ 11 k = -1 then μ 46 k else μ 46 k + x * clS f (chN (μ 9 j0) (μ 10 j0) * 16) k (i + 1).toNat))) ?_ ?_
           · have hFF : (fun k => if μ 11 k = -1 then μ 46 k else μ 46 k + x * clS f (chN (μ 9 j0) (μ 10 j0) * 16) k (i + 1).toNat) = (fun k => if μ 11 k = -1 then μ 46 k else μ 46 k + x * clS f (chN (μ 9 j0) (μ 10 j0) * 16) k (i).toNat) := by
               funext k
               by_cases w : μ 11 k = -1
               · rw [if_pos w, if_pos w]
               · rw [if_neg w, if_neg w, e k, if_neg (fun q => w (by rw [← q, ← hz49]; omega)), Int.add_zero]
             rw [hFF]
           exact ih (i + 1) (by omega) (by omega))
        | (have hFF : (fun k => if μ 11 k = -1 then μ 46 k else μ 46 k + x * clS f (chN (μ 9 j0) (μ 10 j0) * 16) k (i + 1).toNat) = up1 (fun k => if μ 11 k = -1 then μ 46 k else μ 46 k + x * clS f (chN (μ 9 j0) (μ 10 j0) * 16) k (i).toNat) z49 ((fun k => if μ 11 k = -1 then μ 46 k else μ 46 k + x * clS f (chN (μ 9 j0) (μ 10 j0) * 16) k (i).toNat) z49 + x * z79) := by
             funext k
             by_cases w2 : k = z49
             · subst w2; rw [up1_s]; dsimp only; rw [if_neg b65, if_neg b65, e k, if_pos hz49.symm, hz79, Int.mul_add]; omega
             · rw [up1_n w2]
               by_cases w : μ 11 k = -1
               · rw [if_pos w, if_pos w]
               · rw [if_neg w, if_neg w, e k, if_neg (fun q => w2 (by rw [← q, ← hz49])), Int.add_zero]
           refine tt_mem (μ' := ot_up (ot_up (ot_uc (ot_uc (ot_uc μ 38 f) 39 z) 46 (fun k => if μ 11 k = -1 then μ 46 k else μ 46 k + x * clS f (chN (μ 9 j0) (μ 10 j0) * 16) k (i + 1).toNat)) 45 3 (cntN (fun k => if μ 11 k = -1 then μ 46 k else μ 46 k + x * clS f (chN (μ 9 j0) (μ 10 j0) * 16) k (i + 1).toNat))) 45 4 (cntO (fun k => if μ 11 k = -1 then μ 46 k else μ 46 k + x * clS f (chN (μ 9 j0) (μ 10 j0) * 16) k (i + 1).toNat))) ?_ ?_
           · rw [hFF, cntN_upd (by omega), cntO_upd (by omega)]
             simp (disch := decide) only [ot_rd, ot_rs, ot_rf, ot_ucd, ot_ucs, ot_rdf]
             funext u v
             by_cases u1 : u = 45
             · subst u1; by_cases v1 : v = 3 <;> by_cases v2 : v = 4 <;> simp [ot_up, ot_uc, v1, v2]
             · by_cases u2 : u = 46 <;> by_cases u3 : u = 38 <;> by_cases u4 : u = 39 <;> simp [ot_up, ot_uc, u1, u2, u3, u4]
           exact ih (i + 1) (by omega) (by omega))
    · have hcl0 : clS f (chN (μ 9 j0) (μ 10 j0) * 16) z49 i.toNat = 0 := clS_no (fun c c1 c2 q => by have := hrow.2.2.1 c i c1 (by omega) (by omega) (by omega) (by rw [q, hz49]); omega)
      refine tt_aload_n X rfl dX2_take_68 ?_
      refine tt_iload X rfl dX2_take_69 ?_
      refine tt_iload_n X rfl dX2_take_71 ?_
      refine tt_aload_n X rfl dX2_take_72 ?_
      refine tt_getr X fX2_19 (k_45 _ _) (by decide) ⟨nofun, nofun⟩ rfl dX2_take_73 ?_
      refine tt_iload_n X rfl dX2_take_76 ?_
      refine tt_iload X rfl dX2_take_77 ?_
      refine tt_vi X rfl mX2_85 (c_middlesOf l g ln ext _ _ _ (by omega) (by omega) (by simp (disch := decide) only [ot_rd, ot_rs, ot_rf, ot_ucd, ot_ucs, ot_rdf]; exact hrc.1)) (k_37 _ _) ⟨_, rfl, rfl⟩ rfl rfl (Nat.le_of_ble_eq_true rfl) (by decide) (by decide) (by decide) dX2_take_79 (fun z79 L79 μ79 hp => ?_)
      obtain ⟨rfl, e79, hz79⟩ := hp
      replace e79 := e79.symm
      subst e79
      simp (disch := decide) only [ot_rd, ot_rs, ot_rf, ot_ucd, ot_ucs, ot_rdf] at hz79
      refine tt_imul X dX2_take_82 ?_
      refine tt_vv X rfl mX2_88 (c_shift l g ln ext _ _ _ (by omega) (by simp (disch := decide) only [ot_rd, ot_rs, ot_rf, ot_ucd, ot_ucs, ot_rdf]; rw [if_neg b65, hcl0]; have := hf z49 (by omega) (by omega); omega) (by rcases hx with w | w <;> subst w <;> omega)) (k_45 _ _) ⟨_, rfl, rfl⟩ rfl rfl (Nat.le_of_ble_eq_true rfl) (by decide) (by decide) (by decide) dX2_take_83 (fun L83 μ83 hp => ?_)
      obtain ⟨rfl, rfl⟩ := hp
      refine tt_iinc X dX2_take_86 rfl (by decide) ?_
      refine tt_goto X 29 dX2_take_89 (by decide) ?_
      refine tt_loc [(0, _), (1, _), (2, _), (3, _), (4, _)] ⟨rfl, rfl, rfl, rfl, rfl, trivial⟩ ?_
      have e := fun k => sumN_toNat (fun c => if f ((chN (μ 9 j0) (μ 10 j0) * 16) + c) / 16 = k then f ((chN (μ 9 j0) (μ 10 j0) * 16) + c) % 16 else 0) hI.1
      replace e : ∀ k, clS f (chN (μ 9 j0) (μ 10 j0) * 16) k (i + 1).toNat = clS f (chN (μ 9 j0) (μ 10 j0) * 16) k i.toNat + (if f ((chN (μ 9 j0) (μ 10 j0) * 16) + i) / 16 = k then f ((chN (μ 9 j0) (μ 10 j0) * 16) + i) % 16 else 0) := e
      first
        | (refine tt_mem (μ' := ot_up (ot_up (ot_uc (ot_uc (ot_uc μ 38 f) 39 z) 46 (fun k => if μ 11 k = -1 then μ 46 k else μ 46 k + x * clS f (chN (μ 9 j0) (μ 10 j0) * 16) k (i + 1).toNat)) 45 3 (cntN (fun k => if μ 11 k = -1 then μ 46 k else μ 46 k + x * clS f (chN (μ 9 j0) (μ 10 j0) * 16) k (i + 1).toNat))) 45 4 (cntO (fun k => if μ 11 k = -1 then μ 46 k else μ 46 k + x * clS f (chN (μ 9 j0) (μ 10 j0) * 16) k (i + 1).toNat))) ?_ ?_
           · have hFF : (fun k => if μ 11 k = -1 then μ 46 k else μ 46 k + x * clS f (chN (μ 9 j0) (μ 10 j0) * 16) k (i + 1).toNat) = (fun k => if μ 11 k = -1 then μ 46 k else μ 46 k + x * clS f (chN (μ 9 j0) (μ 10 j0) * 16) k (i).toNat) := by
               funext k
               by_cases w : μ 11 k = -1
               · rw [if_pos w, if_pos w]
               · rw [if_neg w, if_neg w, e k, if_neg (fun q => w (by rw [← q, ← hz49]; omega)), Int.add_zero]
             rw [hFF]
           exact ih (i + 1) (by omega) (by omega))
        | (have hFF : (fun k => if μ 11 k = -1 then μ 46 k else μ 46 k + x * clS f (chN (μ 9 j0) (μ 10 j0) * 16) k (i + 1).toNat) = up1 (fun k => if μ 11 k = -1 then μ 46 k else μ 46 k + x * clS f (chN (μ 9 j0) (μ 10 j0) * 16) k (i).toNat) z49 ((fun k => if μ 11 k = -1 then μ 46 k else μ 46 k + x * clS f (chN (μ 9 j0) (μ 10 j0) * 16) k (i).toNat) z49 + x * z79) := by
             funext k
             by_cases w2 : k = z49
             · subst w2; rw [up1_s]; dsimp only; rw [if_neg b65, if_neg b65, e k, if_pos hz49.symm, hz79, Int.mul_add]; omega
             · rw [up1_n w2]
               by_cases w : μ 11 k = -1
               · rw [if_pos w, if_pos w]
               · rw [if_neg w, if_neg w, e k, if_neg (fun q => w2 (by rw [← q, ← hz49])), Int.add_zero]
           refine tt_mem (μ' := ot_up (ot_up (ot_uc (ot_uc (ot_uc μ 38 f) 39 z) 46 (fun k => if μ 11 k = -1 then μ 46 k else μ 46 k + x * clS f (chN (μ 9 j0) (μ 10 j0) * 16) k (i + 1).toNat)) 45 3 (cntN (fun k => if μ 11 k = -1 then μ 46 k else μ 46 k + x * clS f (chN (μ 9 j0) (μ 10 j0) * 16) k (i + 1).toNat))) 45 4 (cntO (fun k => if μ 11 k = -1 then μ 46 k else μ 46 k + x * clS f (chN (μ 9 j0) (μ 10 j0) * 16) k (i + 1).toNat))) ?_ ?_
           · rw [hFF, cntN_upd (by omega), cntO_upd (by omega)]
             simp (disch := decide) only [ot_rd, ot_rs, ot_rf, ot_ucd, ot_ucs, ot_rdf]
             funext u v
             by_cases u1 : u = 45
             · subst u1; by_cases v1 : v = 3 <;> by_cases v2 : v = 4 <;> simp [ot_up, ot_uc, v1, v2]
             · by_cases u2 : u = 46 <;> by_cases u3 : u = 38 <;> by_cases u4 : u = 39 <;> simp [ot_up, ot_uc, u1, u2, u3, u4]
           exact ih (i + 1) (by omega) (by omega))

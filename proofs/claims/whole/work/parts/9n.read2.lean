def dmR (tk : Nat → Int) (t : Int) (r : RS) : RS := match r with
  | .inl f => .inl f
  | .inr q => if tk q.1 = t then .inr (q.1 + 1, q.2) else .inl (1, q.1)
def unB (tk vl : Nat → Int) (r : RS) : RS := match r with
  | .inl f => .inl f
  | .inr q => unR tk vl q.1 q.2
def fcB (tk vl : Nat → Int) (sg : Int) (r : RS) : RS := match r with
  | .inl f => .inl f
  | .inr q => if sg = 42 then unR tk vl q.1 q.2 else if tk q.1 ≠ 20 then .inl (1, q.1) else if vl q.1 = 0 then .inl (2, q.1) else .inr (q.1 + 1, q.2 ++ [(0, vl q.1)])
set_option maxRecDepth 100000 in
set_option maxHeartbeats 1000000 in
theorem c_demand (l : Launch) (g : ot_G) (ln : Nat) (ext : ot_L) (μ : ot_M) (t : Int) (ht : 40 ≤ t ∧ t ≤ 62) (μb : ot_M) (tk vl pl : Nat → Int) (K b : Nat) (F0 : Int → Int) (hg : gTk μb K tk vl pl) (r : RS) (hs : stC μb tk pl K b F0 r μ)  : ot_C l g yX4_demand cX4_demand 2 none 1 0 0 [.inr 49, .inl t] (LL ln ext) μ (ot_pv (fun L2 μ2 => L2 = LL ln ext ∧ stC μb tk pl K b F0 (dmR tk t r) μ2)) := by
  refine ot_enter (by decide) (Nat.le_of_ble_eq_true rfl) ?_
  intro p e s m args below meth c X hr
  have hK := hg.1
  have h41 := hg.2.1
  have h4 := stC_4 hs
  have h5 := stC_5 hs
  have h7 := stC_7 hs
  have h8 := stC_8 hs
  have htr := toR_rng (r := r) hg
  refine tt_aload_n X rfl dX4_demand_0 ?_
  refine tt_geti X fX4_54 (k_49 _ _) (by decide) (Or.inl rfl) dX4_demand_1 ?_
  refine tt_top (stC_tok hs) ?_
  refine tt_iload_n X rfl dX4_demand_4 ?_
  refine tt_icmp_ne X 15 (by omega) dX4_demand_5 (by decide) (fun b5 => ?_) (fun b5 => ?_)
  · refine tt_aload_n X rfl dX4_demand_15 ?_
    refine tt_iconst X dX4_demand_16 ?_
    refine tt_vv X rfl mX4_98 (c_refuse l g ln ext _ _ (stC_8 hs) (by have := stC_5 hs; omega)) (k_49 _ _) ⟨_, rfl, rfl⟩ rfl rfl (Nat.le_of_ble_eq_true rfl) (by decide) (by decide) (by decide) dX4_demand_17 (fun L17 μ17 hp => ?_)
    obtain ⟨rfl, e17⟩ := hp
    have hs17 := stC_ref hg hs (k := 1) (by omega) e17
    refine tt_vret X ⟨hr.1, hr.2.1⟩ (by decide) (by decide) dX4_demand_20 ?_
    refine ⟨rfl, ?_⟩
    first
      | (obtain ⟨q, rfl⟩ := toR_in (r := r) (tk := tk) (by omega)
         replace b5 : ¬ tk q.1 ≠ t := b5
         show stC μb tk pl K b F0 (if tk q.1 = t then _ else _) _
         rw [if_pos (by omega)]
         exact hs9)
      | (cases r with
         | inl f => exact hs17
         | inr q =>
           replace b5 : tk q.1 ≠ t := b5
           show stC μb tk pl K b F0 (if tk q.1 = t then _ else _) _
           rw [if_neg b5]
           exact hs17)
  · refine tt_aload_n X rfl dX4_demand_8 ?_
    refine tt_vv X rfl mX4_95 (c_step l g ln ext _ (stC_8 hs) (by have := stC_5 hs; omega) (by have := stC_4 hs; omega)) (k_49 _ _) ⟨_, rfl, rfl⟩ rfl rfl (Nat.le_of_ble_eq_true rfl) (by decide) (by decide) (by decide) dX4_demand_9 (fun L9 μ9 hp => ?_)
    obtain ⟨rfl, e9⟩ := hp
    have hs9 := stC_step hg hs (by omega) e9
    refine tt_goto X 20 dX4_demand_12 (by decide) ?_
    refine tt_vret X ⟨hr.1, hr.2.1⟩ (by decide) (by decide) dX4_demand_20 ?_
    refine ⟨rfl, ?_⟩
    first
      | (obtain ⟨q, rfl⟩ := toR_in (r := r) (tk := tk) (by omega)
         replace b5 : ¬ tk q.1 ≠ t := b5
         show stC μb tk pl K b F0 (if tk q.1 = t then _ else _) _
         rw [if_pos (by omega)]
         exact hs9)
      | (cases r with
         | inl f => exact hs17
         | inr q =>
           replace b5 : tk q.1 ≠ t := b5
           show stC μb tk pl K b F0 (if tk q.1 = t then _ else _) _
           rw [if_neg b5]
           exact hs17)
/-- what stands behind a sign: behind / a number alone, and not 0 -/
def opB (tk vl : Nat → Int) (sg : Int) (r : RS) : RS := if sg = 47 then fcB tk vl 47 r else unB tk vl r
theorem opB_n {tk vl : Nat → Int} {sg : Int} {r : RS} (h : sg ≠ 47) : opB tk vl sg r = unB tk vl r := if_neg h
theorem opB_y {tk vl : Nat → Int} {sg : Int} {r : RS} (h : sg = 47) : opB tk vl sg r = fcB tk vl 47 r := if_pos h
theorem opB_md {tk vl : Nat → Int} {sg : Int} {r : RS} (h : sg = 42 ∨ sg = 47) : opB tk vl sg r = fcB tk vl sg r := by
  rcases h with rfl | rfl
  · rw [opB_n (by decide)]
    cases r with
    | inl f => rfl
    | inr q => first | rfl | simp [unB, fcB]
  · exact if_pos rfl
theorem fcB_bad {tk vl : Nat → Int} {q : Nat × CL} (h : tk q.1 ≠ 20) : fcB tk vl 47 (.inr q) = .inl (1, q.1) := by
  simp [fcB, h]
theorem fcB_zero {tk vl : Nat → Int} {q : Nat × CL} (h : tk q.1 = 20) (h2 : vl q.1 = 0) : fcB tk vl 47 (.inr q) = .inl (2, q.1) := by
  simp [fcB, h, h2]
theorem fcB_num {tk vl : Nat → Int} {q : Nat × CL} (h : tk q.1 = 20) (h2 : vl q.1 ≠ 0) : fcB tk vl 47 (.inr q) = .inr (q.1 + 1, q.2 ++ [(0, vl q.1)]) := by
  simp [fcB, h, h2]
set_option maxRecDepth 100000 in
set_option maxHeartbeats 1000000 in
theorem c_operand (l : Launch) (g : ot_G) (ln : Nat) (ext : ot_L) (μ : ot_M) (sg : Int) (hsg : 0 ≤ sg ∧ sg ≤ 62) (μb : ot_M) (tk vl pl : Nat → Int) (K b : Nat) (F0 : Int → Int) (hg : gTk μb K tk vl pl) (r : RS) (hs : stC μb tk pl K b F0 r μ) (hroom : ∀ q, r = .inr q → b + q.2.length < 400 ∨ tk q.1 = 21)  : ot_C l g yX4_readOperand cX4_readOperand 3 none 1 0 0 [.inr 49, .inl sg] (LL ln ext) μ (ot_pv (fun L2 μ2 => L2 = LL ln ext ∧ stC μb tk pl K b F0 (opB tk vl sg r) μ2)) := by
  refine ot_enter (by decide) (Nat.le_of_ble_eq_true rfl) ?_
  intro p e s m args below meth c X hr
  have hK := hg.1
  have h41 := hg.2.1
  have h4 := stC_4 hs
  have h5 := stC_5 hs
  have h7 := stC_7 hs
  have h8 := stC_8 hs
  have htr := toR_rng (r := r) hg
  refine tt_iload_n X rfl dX4_readOperand_0 ?_
  refine tt_bipush X (by decide) dX4_readOperand_1 ?_
  refine tt_icmp_ne X 10 (by omega) dX4_readOperand_3 (by decide) (fun b3 => ?_) (fun b3 => ?_)
  · refine tt_iconst X dX4_readOperand_10 ?_
    refine tt_istore_n X dX4_readOperand_11 (by decide) ?_
    refine tt_iload_n X rfl dX4_readOperand_12 ?_
    refine tt_if_eq X 45 (by omega) dX4_readOperand_13 (by decide) (fun b13 => ?_) (fun b13 => ?_)
    · refine tt_aload_n X rfl dX4_readOperand_45 ?_
      refine tt_geti X fX4_54 (k_49 _ _) (by decide) (Or.inl rfl) dX4_readOperand_46 ?_
      refine tt_top (stC_tok hs) ?_
      refine tt_bipush X (by decide) dX4_readOperand_49 ?_
      refine tt_icmp_ne X 74 (by omega) dX4_readOperand_51 (by decide) (fun b51 => ?_) (fun b51 => ?_)
      · refine tt_iload_n X rfl dX4_readOperand_74 ?_
        refine tt_if_ne X 118 (by omega) dX4_readOperand_75 (by decide) (fun b75 => ?_) (fun b75 => ?_)
        · exact absurd b75 (by omega)
        · refine tt_aload_n X rfl dX4_readOperand_78 ?_
          refine tt_geti X fX4_54 (k_49 _ _) (by decide) (Or.inl rfl) dX4_readOperand_79 ?_
          refine tt_top (stC_tok hs) ?_
          refine tt_bipush X (by decide) dX4_readOperand_82 ?_
          refine tt_icmp_lt X 118 (by omega) dX4_readOperand_84 (by decide) (fun b84 => ?_) (fun b84 => ?_)
          · refine tt_aload_n X rfl dX4_readOperand_118 ?_
            refine tt_iconst X dX4_readOperand_119 ?_
            refine tt_vv X rfl mX4_98 (c_refuse l g ln ext _ _ (stC_8 hs) (by have := stC_5 hs; omega)) (k_49 _ _) ⟨_, rfl, rfl⟩ rfl rfl (Nat.le_of_ble_eq_true rfl) (by decide) (by decide) (by decide) dX4_readOperand_120 (fun L120 μ120 hp => ?_)
            obtain ⟨rfl, e120⟩ := hp
            have hs120 := stC_ref hg hs (k := 1) (by omega) e120
            refine tt_vret X ⟨hr.1, hr.2.1⟩ (by decide) (by decide) dX4_readOperand_123 ?_
            refine ⟨rfl, ?_⟩
            first
              | (have w47 : sg = 47 := by omega
                 have htn : tk q.1 = 20 := by omega
                 have hv0 : vl q.1 = 0 := by omega
                 rw [opB_y w47, fcB_zero htn hv0]
                 exact hs39)
              | (have w47 : sg = 47 := by omega
                 have htn : tk q.1 = 20 := by omega
                 have hv0 : vl q.1 ≠ 0 := by omega
                 rw [opB_y w47, fcB_num htn hv0]
                 exact hs68)
              | (have w47 : sg = 47 := by omega
                 cases r with
                 | inl f => rw [opB_y w47]; exact hs120
                 | inr q =>
                   have e0 : toR tk (.inr q) = tk q.1 := rfl
                   have htn : tk q.1 ≠ 20 := by omega
                   rw [opB_y w47, fcB_bad htn]
                   exact hs120)
              | (have w47 : sg ≠ 47 := by omega
                 rw [opB_n w47]
                 show stC μb tk pl K b F0 (if tk q.1 = 20 then _ else _) _
                 have htn : tk q.1 = 20 := by omega
                 rw [if_pos htn]
                 exact hs68)
              | (have w47 : sg ≠ 47 := by omega
                 rw [opB_n w47]
                 show stC μb tk pl K b F0 (if tk q.1 = 20 then _ else if 6 ≤ tk q.1 ∧ tk q.1 < 14 then _ else _) _
                 rw [if_neg htk.2.2, if_pos ⟨htk.1, htk.2.1⟩]
                 exact hs112)
              | (have w47 : sg ≠ 47 := by omega
                 rw [opB_n w47]
                 cases r with
                 | inl f => exact hs120
                 | inr q =>
                   have e0 : toR tk (.inr q) = tk q.1 := rfl
                   show stC μb tk pl K b F0 (if tk q.1 = 20 then _ else if 6 ≤ tk q.1 ∧ tk q.1 < 14 then _ else _) _
                   have htn : ¬ tk q.1 = 20 := by omega
                   have htm : ¬ (6 ≤ tk q.1 ∧ tk q.1 < 14) := by omega
                   rw [if_neg htn, if_neg htm]
                   exact hs120)
              | (exfalso; omega)
          · refine tt_aload_n X rfl dX4_readOperand_87 ?_
            refine tt_geti X fX4_54 (k_49 _ _) (by decide) (Or.inl rfl) dX4_readOperand_88 ?_
            refine tt_top (stC_tok hs) ?_
            refine tt_bipush X (by decide) dX4_readOperand_91 ?_
            refine tt_icmp_ge X 118 (by omega) dX4_readOperand_93 (by decide) (fun b93 => ?_) (fun b93 => ?_)
            · refine tt_aload_n X rfl dX4_readOperand_118 ?_
              refine tt_iconst X dX4_readOperand_119 ?_
              refine tt_vv X rfl mX4_98 (c_refuse l g ln ext _ _ (stC_8 hs) (by have := stC_5 hs; omega)) (k_49 _ _) ⟨_, rfl, rfl⟩ rfl rfl (Nat.le_of_ble_eq_true rfl) (by decide) (by decide) (by decide) dX4_readOperand_120 (fun L120 μ120 hp => ?_)
              obtain ⟨rfl, e120⟩ := hp
              have hs120 := stC_ref hg hs (k := 1) (by omega) e120
              refine tt_vret X ⟨hr.1, hr.2.1⟩ (by decide) (by decide) dX4_readOperand_123 ?_
              refine ⟨rfl, ?_⟩
              first
                | (have w47 : sg = 47 := by omega
                   have htn : tk q.1 = 20 := by omega
                   have hv0 : vl q.1 = 0 := by omega
                   rw [opB_y w47, fcB_zero htn hv0]
                   exact hs39)
                | (have w47 : sg = 47 := by omega
                   have htn : tk q.1 = 20 := by omega
                   have hv0 : vl q.1 ≠ 0 := by omega
                   rw [opB_y w47, fcB_num htn hv0]
                   exact hs68)
                | (have w47 : sg = 47 := by omega
                   cases r with
                   | inl f => rw [opB_y w47]; exact hs120
                   | inr q =>
                     have e0 : toR tk (.inr q) = tk q.1 := rfl
                     have htn : tk q.1 ≠ 20 := by omega
                     rw [opB_y w47, fcB_bad htn]
                     exact hs120)
                | (have w47 : sg ≠ 47 := by omega
                   rw [opB_n w47]
                   show stC μb tk pl K b F0 (if tk q.1 = 20 then _ else _) _
                   have htn : tk q.1 = 20 := by omega
                   rw [if_pos htn]
                   exact hs68)
                | (have w47 : sg ≠ 47 := by omega
                   rw [opB_n w47]
                   show stC μb tk pl K b F0 (if tk q.1 = 20 then _ else if 6 ≤ tk q.1 ∧ tk q.1 < 14 then _ else _) _
                   rw [if_neg htk.2.2, if_pos ⟨htk.1, htk.2.1⟩]
                   exact hs112)
                | (have w47 : sg ≠ 47 := by omega
                   rw [opB_n w47]
                   cases r with
                   | inl f => exact hs120
                   | inr q =>
                     have e0 : toR tk (.inr q) = tk q.1 := rfl
                     show stC μb tk pl K b F0 (if tk q.1 = 20 then _ else if 6 ≤ tk q.1 ∧ tk q.1 < 14 then _ else _) _
                     have htn : ¬ tk q.1 = 20 := by omega
                     have htm : ¬ (6 ≤ tk q.1 ∧ tk q.1 < 14) := by omega
                     rw [if_neg htn, if_neg htm]
                     exact hs120)
                | (exfalso; omega)
            · obtain ⟨q, rfl⟩ := toR_in (r := r) (tk := tk) (by omega)
              have hat := stC_at hs
              have hrq := hroom q rfl
              have htk : 6 ≤ tk q.1 ∧ tk q.1 < 14 ∧ tk q.1 ≠ 20 := ⟨by show 6 ≤ toR tk (.inr q); omega, by show toR tk (.inr q) < 14; omega, by show toR tk (.inr q) ≠ 20; omega⟩
              refine tt_aload_n X rfl dX4_readOperand_96 ?_
              refine tt_sipush X (by decide) dX4_readOperand_97 ?_
              refine tt_aload_n X rfl dX4_readOperand_100 ?_
              refine tt_geti X fX4_54 (k_49 _ _) (by decide) (Or.inl rfl) dX4_readOperand_101 ?_
              refine tt_top (stC_tok hs) ?_
              refine tt_iadd X dX4_readOperand_104 ?_
              refine tt_bipush X (by decide) dX4_readOperand_105 ?_
              refine tt_isub X dX4_readOperand_107 ?_
              refine tt_vv X rfl mX4_121 (c_emit l g ln ext _ _ (stC_7 hs)) (k_49 _ _) ⟨_, rfl, rfl⟩ rfl rfl (Nat.le_of_ble_eq_true rfl) (by decide) (by decide) (by decide) dX4_readOperand_108 (fun L108 μ108 hp => ?_)
              obtain ⟨rfl, e108⟩ := hp
              have hs108 := stC_emit (x := (1, tk q.1 - 6)) hs (fun q2 hq2 => by cases hq2; exact ⟨by show 10000 + toR tk (.inr q) - 6 = 10000 + (tk q.1 - 6); show 10000 + tk q.1 - 6 = _; omega, by omega⟩) e108
              refine tt_aload_n X rfl dX4_readOperand_111 ?_
              refine tt_vv X rfl mX4_95 (c_step l g ln ext _ (stC_8 hs108) (by have := stC_5 hs108; omega) (by have := stC_4 hs108; omega)) (k_49 _ _) ⟨_, rfl, rfl⟩ rfl rfl (Nat.le_of_ble_eq_true rfl) (by decide) (by decide) (by decide) dX4_readOperand_112 (fun L112 μ112 hp => ?_)
              obtain ⟨rfl, e112⟩ := hp
              have hs112 := stC_step hg hs108 (by show tk q.1 ≠ 21; omega) e112
              refine tt_goto X 123 dX4_readOperand_115 (by decide) ?_
              refine tt_vret X ⟨hr.1, hr.2.1⟩ (by decide) (by decide) dX4_readOperand_123 ?_
              refine ⟨rfl, ?_⟩
              first
                | (have w47 : sg = 47 := by omega
                   have htn : tk q.1 = 20 := by omega
                   have hv0 : vl q.1 = 0 := by omega
                   rw [opB_y w47, fcB_zero htn hv0]
                   exact hs39)
                | (have w47 : sg = 47 := by omega
                   have htn : tk q.1 = 20 := by omega
                   have hv0 : vl q.1 ≠ 0 := by omega
                   rw [opB_y w47, fcB_num htn hv0]
                   exact hs68)
                | (have w47 : sg = 47 := by omega
                   cases r with
                   | inl f => rw [opB_y w47]; exact hs120
                   | inr q =>
                     have e0 : toR tk (.inr q) = tk q.1 := rfl
                     have htn : tk q.1 ≠ 20 := by omega
                     rw [opB_y w47, fcB_bad htn]
                     exact hs120)
                | (have w47 : sg ≠ 47 := by omega
                   rw [opB_n w47]
                   show stC μb tk pl K b F0 (if tk q.1 = 20 then _ else _) _
                   have htn : tk q.1 = 20 := by omega
                   rw [if_pos htn]
                   exact hs68)
                | (have w47 : sg ≠ 47 := by omega
                   rw [opB_n w47]
                   show stC μb tk pl K b F0 (if tk q.1 = 20 then _ else if 6 ≤ tk q.1 ∧ tk q.1 < 14 then _ else _) _
                   rw [if_neg htk.2.2, if_pos ⟨htk.1, htk.2.1⟩]
                   exact hs112)
                | (have w47 : sg ≠ 47 := by omega
                   rw [opB_n w47]
                   cases r with
                   | inl f => exact hs120
                   | inr q =>
                     have e0 : toR tk (.inr q) = tk q.1 := rfl
                     show stC μb tk pl K b F0 (if tk q.1 = 20 then _ else if 6 ≤ tk q.1 ∧ tk q.1 < 14 then _ else _) _
                     have htn : ¬ tk q.1 = 20 := by omega
                     have htm : ¬ (6 ≤ tk q.1 ∧ tk q.1 < 14) := by omega
                     rw [if_neg htn, if_neg htm]
                     exact hs120)
                | (exfalso; omega)
      · first | (obtain ⟨q, rfl⟩ := toR_in (r := r) (tk := tk) (by omega)) | skip
        have hat := stC_at hs
        have hrq := hroom q rfl
        have htk : tk q.1 = 20 := by show toR tk (.inr q) = 20; omega
        refine tt_aload_n X rfl dX4_readOperand_54 ?_
        refine tt_aload_n X rfl dX4_readOperand_55 ?_
        refine tt_getr X fX4_25 (k_49 _ _) (by decide) ⟨nofun, nofun⟩ rfl dX4_readOperand_56 ?_
        refine tt_aload_n X rfl dX4_readOperand_59 ?_
        refine tt_geti X fX4_51 (k_49 _ _) (by decide) (Or.inl rfl) dX4_readOperand_60 ?_
        refine tt_iaload X (k_57 _ _) (by omega) dX4_readOperand_63 ?_
        refine tt_top (y := vl q.1) (by rw [stC_o hs (k := 57) (by decide) (by decide), hat.1]; exact (hg.2.2.1 q.1 hat.2.1).2.2 htk) ?_
        refine tt_vv X rfl mX4_121 (c_emit l g ln ext _ _ (stC_7 hs)) (k_49 _ _) ⟨_, rfl, rfl⟩ rfl rfl (Nat.le_of_ble_eq_true rfl) (by decide) (by decide) (by decide) dX4_readOperand_64 (fun L64 μ64 hp => ?_)
        obtain ⟨rfl, e64⟩ := hp
        have hs64 := stC_emit (x := (0, vl q.1)) hs (fun q2 hq2 => by cases hq2; exact ⟨rfl, by omega⟩) e64
        refine tt_aload_n X rfl dX4_readOperand_67 ?_
        refine tt_vv X rfl mX4_95 (c_step l g ln ext _ (stC_8 hs64) (by have := stC_5 hs64; omega) (by have := stC_4 hs64; omega)) (k_49 _ _) ⟨_, rfl, rfl⟩ rfl rfl (Nat.le_of_ble_eq_true rfl) (by decide) (by decide) (by decide) dX4_readOperand_68 (fun L68 μ68 hp => ?_)
        obtain ⟨rfl, e68⟩ := hp
        have hs68 := stC_step hg hs64 (by show tk q.1 ≠ 21; omega) e68
        refine tt_goto X 123 dX4_readOperand_71 (by decide) ?_
        refine tt_vret X ⟨hr.1, hr.2.1⟩ (by decide) (by decide) dX4_readOperand_123 ?_
        refine ⟨rfl, ?_⟩
        first
          | (have w47 : sg = 47 := by omega
             have htn : tk q.1 = 20 := by omega
             have hv0 : vl q.1 = 0 := by omega
             rw [opB_y w47, fcB_zero htn hv0]
             exact hs39)
          | (have w47 : sg = 47 := by omega
             have htn : tk q.1 = 20 := by omega
             have hv0 : vl q.1 ≠ 0 := by omega
             rw [opB_y w47, fcB_num htn hv0]
             exact hs68)
          | (have w47 : sg = 47 := by omega
             cases r with
             | inl f => rw [opB_y w47]; exact hs120
             | inr q =>
               have e0 : toR tk (.inr q) = tk q.1 := rfl
               have htn : tk q.1 ≠ 20 := by omega
               rw [opB_y w47, fcB_bad htn]
               exact hs120)
          | (have w47 : sg ≠ 47 := by omega
             rw [opB_n w47]
             show stC μb tk pl K b F0 (if tk q.1 = 20 then _ else _) _
             have htn : tk q.1 = 20 := by omega
             rw [if_pos htn]
             exact hs68)
          | (have w47 : sg ≠ 47 := by omega
             rw [opB_n w47]
             show stC μb tk pl K b F0 (if tk q.1 = 20 then _ else if 6 ≤ tk q.1 ∧ tk q.1 < 14 then _ else _) _
             rw [if_neg htk.2.2, if_pos ⟨htk.1, htk.2.1⟩]
             exact hs112)
          | (have w47 : sg ≠ 47 := by omega
             rw [opB_n w47]
             cases r with
             | inl f => exact hs120
             | inr q =>
               have e0 : toR tk (.inr q) = tk q.1 := rfl
               show stC μb tk pl K b F0 (if tk q.1 = 20 then _ else if 6 ≤ tk q.1 ∧ tk q.1 < 14 then _ else _) _
               have htn : ¬ tk q.1 = 20 := by omega
               have htm : ¬ (6 ≤ tk q.1 ∧ tk q.1 < 14) := by omega
               rw [if_neg htn, if_neg htm]
               exact hs120)
          | (exfalso; omega)
    · exact absurd b13 (by omega)
  · refine tt_iconst X dX4_readOperand_6 ?_
    refine tt_goto X 11 dX4_readOperand_7 (by decide) ?_
    refine tt_istore_n X dX4_readOperand_11 (by decide) ?_
    refine tt_iload_n X rfl dX4_readOperand_12 ?_
    refine tt_if_eq X 45 (by omega) dX4_readOperand_13 (by decide) (fun b13 => ?_) (fun b13 => ?_)
    · exact absurd b13 (by omega)
    · refine tt_aload_n X rfl dX4_readOperand_16 ?_
      refine tt_geti X fX4_54 (k_49 _ _) (by decide) (Or.inl rfl) dX4_readOperand_17 ?_
      refine tt_top (stC_tok hs) ?_
      refine tt_bipush X (by decide) dX4_readOperand_20 ?_
      refine tt_icmp_ne X 45 (by omega) dX4_readOperand_22 (by decide) (fun b22 => ?_) (fun b22 => ?_)
      · refine tt_aload_n X rfl dX4_readOperand_45 ?_
        refine tt_geti X fX4_54 (k_49 _ _) (by decide) (Or.inl rfl) dX4_readOperand_46 ?_
        refine tt_top (stC_tok hs) ?_
        refine tt_bipush X (by decide) dX4_readOperand_49 ?_
        refine tt_icmp_ne X 74 (by omega) dX4_readOperand_51 (by decide) (fun b51 => ?_) (fun b51 => ?_)
        · refine tt_iload_n X rfl dX4_readOperand_74 ?_
          refine tt_if_ne X 118 (by omega) dX4_readOperand_75 (by decide) (fun b75 => ?_) (fun b75 => ?_)
          · refine tt_aload_n X rfl dX4_readOperand_118 ?_
            refine tt_iconst X dX4_readOperand_119 ?_
            refine tt_vv X rfl mX4_98 (c_refuse l g ln ext _ _ (stC_8 hs) (by have := stC_5 hs; omega)) (k_49 _ _) ⟨_, rfl, rfl⟩ rfl rfl (Nat.le_of_ble_eq_true rfl) (by decide) (by decide) (by decide) dX4_readOperand_120 (fun L120 μ120 hp => ?_)
            obtain ⟨rfl, e120⟩ := hp
            have hs120 := stC_ref hg hs (k := 1) (by omega) e120
            refine tt_vret X ⟨hr.1, hr.2.1⟩ (by decide) (by decide) dX4_readOperand_123 ?_
            refine ⟨rfl, ?_⟩
            first
              | (have w47 : sg = 47 := by omega
                 have htn : tk q.1 = 20 := by omega
                 have hv0 : vl q.1 = 0 := by omega
                 rw [opB_y w47, fcB_zero htn hv0]
                 exact hs39)
              | (have w47 : sg = 47 := by omega
                 have htn : tk q.1 = 20 := by omega
                 have hv0 : vl q.1 ≠ 0 := by omega
                 rw [opB_y w47, fcB_num htn hv0]
                 exact hs68)
              | (have w47 : sg = 47 := by omega
                 cases r with
                 | inl f => rw [opB_y w47]; exact hs120
                 | inr q =>
                   have e0 : toR tk (.inr q) = tk q.1 := rfl
                   have htn : tk q.1 ≠ 20 := by omega
                   rw [opB_y w47, fcB_bad htn]
                   exact hs120)
              | (have w47 : sg ≠ 47 := by omega
                 rw [opB_n w47]
                 show stC μb tk pl K b F0 (if tk q.1 = 20 then _ else _) _
                 have htn : tk q.1 = 20 := by omega
                 rw [if_pos htn]
                 exact hs68)
              | (have w47 : sg ≠ 47 := by omega
                 rw [opB_n w47]
                 show stC μb tk pl K b F0 (if tk q.1 = 20 then _ else if 6 ≤ tk q.1 ∧ tk q.1 < 14 then _ else _) _
                 rw [if_neg htk.2.2, if_pos ⟨htk.1, htk.2.1⟩]
                 exact hs112)
              | (have w47 : sg ≠ 47 := by omega
                 rw [opB_n w47]
                 cases r with
                 | inl f => exact hs120
                 | inr q =>
                   have e0 : toR tk (.inr q) = tk q.1 := rfl
                   show stC μb tk pl K b F0 (if tk q.1 = 20 then _ else if 6 ≤ tk q.1 ∧ tk q.1 < 14 then _ else _) _
                   have htn : ¬ tk q.1 = 20 := by omega
                   have htm : ¬ (6 ≤ tk q.1 ∧ tk q.1 < 14) := by omega
                   rw [if_neg htn, if_neg htm]
                   exact hs120)
              | (exfalso; omega)
          · exact absurd b75 (by omega)
        · exact absurd b51 (by omega)
      · obtain ⟨q, rfl⟩ := toR_in (r := r) (tk := tk) (by omega)
        have hat := stC_at hs
        have hrq := hroom q rfl
        have htk : tk q.1 = 20 := by show toR tk (.inr q) = 20; omega
        have hvr := hg.2.2.2.2.2.2 q.1
        refine tt_aload_n X rfl dX4_readOperand_25 ?_
        refine tt_getr X fX4_25 (k_49 _ _) (by decide) ⟨nofun, nofun⟩ rfl dX4_readOperand_26 ?_
        refine tt_aload_n X rfl dX4_readOperand_29 ?_
        refine tt_geti X fX4_51 (k_49 _ _) (by decide) (Or.inl rfl) dX4_readOperand_30 ?_
        refine tt_iaload X (k_57 _ _) (by omega) dX4_readOperand_33 ?_
        refine tt_top (y := vl q.1) (by rw [stC_o hs (k := 57) (by decide) (by decide), hat.1]; exact (hg.2.2.1 q.1 hat.2.1).2.2 htk) ?_
        refine tt_if_ne X 45 (by omega) dX4_readOperand_34 (by decide) (fun b34 => ?_) (fun b34 => ?_)
        · refine tt_aload_n X rfl dX4_readOperand_45 ?_
          refine tt_geti X fX4_54 (k_49 _ _) (by decide) (Or.inl rfl) dX4_readOperand_46 ?_
          refine tt_top (stC_tok hs) ?_
          refine tt_bipush X (by decide) dX4_readOperand_49 ?_
          refine tt_icmp_ne X 74 (by omega) dX4_readOperand_51 (by decide) (fun b51 => ?_) (fun b51 => ?_)
          · exact absurd b51 (by omega)
          · first | (obtain ⟨q, rfl⟩ := toR_in (r := r) (tk := tk) (by omega)) | skip
            have hat := stC_at hs
            have hrq := hroom q rfl
            have htk : tk q.1 = 20 := by show toR tk (.inr q) = 20; omega
            refine tt_aload_n X rfl dX4_readOperand_54 ?_
            refine tt_aload_n X rfl dX4_readOperand_55 ?_
            refine tt_getr X fX4_25 (k_49 _ _) (by decide) ⟨nofun, nofun⟩ rfl dX4_readOperand_56 ?_
            refine tt_aload_n X rfl dX4_readOperand_59 ?_
            refine tt_geti X fX4_51 (k_49 _ _) (by decide) (Or.inl rfl) dX4_readOperand_60 ?_
            refine tt_iaload X (k_57 _ _) (by omega) dX4_readOperand_63 ?_
            refine tt_top (y := vl q.1) (by rw [stC_o hs (k := 57) (by decide) (by decide), hat.1]; exact (hg.2.2.1 q.1 hat.2.1).2.2 htk) ?_
            refine tt_vv X rfl mX4_121 (c_emit l g ln ext _ _ (stC_7 hs)) (k_49 _ _) ⟨_, rfl, rfl⟩ rfl rfl (Nat.le_of_ble_eq_true rfl) (by decide) (by decide) (by decide) dX4_readOperand_64 (fun L64 μ64 hp => ?_)
            obtain ⟨rfl, e64⟩ := hp
            have hs64 := stC_emit (x := (0, vl q.1)) hs (fun q2 hq2 => by cases hq2; exact ⟨rfl, by omega⟩) e64
            refine tt_aload_n X rfl dX4_readOperand_67 ?_
            refine tt_vv X rfl mX4_95 (c_step l g ln ext _ (stC_8 hs64) (by have := stC_5 hs64; omega) (by have := stC_4 hs64; omega)) (k_49 _ _) ⟨_, rfl, rfl⟩ rfl rfl (Nat.le_of_ble_eq_true rfl) (by decide) (by decide) (by decide) dX4_readOperand_68 (fun L68 μ68 hp => ?_)
            obtain ⟨rfl, e68⟩ := hp
            have hs68 := stC_step hg hs64 (by show tk q.1 ≠ 21; omega) e68
            refine tt_goto X 123 dX4_readOperand_71 (by decide) ?_
            refine tt_vret X ⟨hr.1, hr.2.1⟩ (by decide) (by decide) dX4_readOperand_123 ?_
            refine ⟨rfl, ?_⟩
            first
              | (have w47 : sg = 47 := by omega
                 have htn : tk q.1 = 20 := by omega
                 have hv0 : vl q.1 = 0 := by omega
                 rw [opB_y w47, fcB_zero htn hv0]
                 exact hs39)
              | (have w47 : sg = 47 := by omega
                 have htn : tk q.1 = 20 := by omega
                 have hv0 : vl q.1 ≠ 0 := by omega
                 rw [opB_y w47, fcB_num htn hv0]
                 exact hs68)
              | (have w47 : sg = 47 := by omega
                 cases r with
                 | inl f => rw [opB_y w47]; exact hs120
                 | inr q =>
                   have e0 : toR tk (.inr q) = tk q.1 := rfl
                   have htn : tk q.1 ≠ 20 := by omega
                   rw [opB_y w47, fcB_bad htn]
                   exact hs120)
              | (have w47 : sg ≠ 47 := by omega
                 rw [opB_n w47]
                 show stC μb tk pl K b F0 (if tk q.1 = 20 then _ else _) _
                 have htn : tk q.1 = 20 := by omega
                 rw [if_pos htn]
                 exact hs68)
              | (have w47 : sg ≠ 47 := by omega
                 rw [opB_n w47]
                 show stC μb tk pl K b F0 (if tk q.1 = 20 then _ else if 6 ≤ tk q.1 ∧ tk q.1 < 14 then _ else _) _
                 rw [if_neg htk.2.2, if_pos ⟨htk.1, htk.2.1⟩]
                 exact hs112)
              | (have w47 : sg ≠ 47 := by omega
                 rw [opB_n w47]
                 cases r with
                 | inl f => exact hs120
                 | inr q =>
                   have e0 : toR tk (.inr q) = tk q.1 := rfl
                   show stC μb tk pl K b F0 (if tk q.1 = 20 then _ else if 6 ≤ tk q.1 ∧ tk q.1 < 14 then _ else _) _
                   have htn : ¬ tk q.1 = 20 := by omega
                   have htm : ¬ (6 ≤ tk q.1 ∧ tk q.1 < 14) := by omega
                   rw [if_neg htn, if_neg htm]
                   exact hs120)
              | (exfalso; omega)
        · refine tt_aload_n X rfl dX4_readOperand_37 ?_
          refine tt_iconst X dX4_readOperand_38 ?_
          refine tt_vv X rfl mX4_98 (c_refuse l g ln ext _ _ (stC_8 hs) (by have := stC_5 hs; omega)) (k_49 _ _) ⟨_, rfl, rfl⟩ rfl rfl (Nat.le_of_ble_eq_true rfl) (by decide) (by decide) (by decide) dX4_readOperand_39 (fun L39 μ39 hp => ?_)
          obtain ⟨rfl, e39⟩ := hp
          have hs39 := stC_ref hg hs (k := 2) (by omega) e39
          refine tt_goto X 123 dX4_readOperand_42 (by decide) ?_
          refine tt_vret X ⟨hr.1, hr.2.1⟩ (by decide) (by decide) dX4_readOperand_123 ?_
          refine ⟨rfl, ?_⟩
          first
            | (have w47 : sg = 47 := by omega
               have htn : tk q.1 = 20 := by omega
               have hv0 : vl q.1 = 0 := by omega
               rw [opB_y w47, fcB_zero htn hv0]
               exact hs39)
            | (have w47 : sg = 47 := by omega
               have htn : tk q.1 = 20 := by omega
               have hv0 : vl q.1 ≠ 0 := by omega
               rw [opB_y w47, fcB_num htn hv0]
               exact hs68)
            | (have w47 : sg = 47 := by omega
               cases r with
               | inl f => rw [opB_y w47]; exact hs120
               | inr q =>
                 have e0 : toR tk (.inr q) = tk q.1 := rfl
                 have htn : tk q.1 ≠ 20 := by omega
                 rw [opB_y w47, fcB_bad htn]
                 exact hs120)
            | (have w47 : sg ≠ 47 := by omega
               rw [opB_n w47]
               show stC μb tk pl K b F0 (if tk q.1 = 20 then _ else _) _
               have htn : tk q.1 = 20 := by omega
               rw [if_pos htn]
               exact hs68)
            | (have w47 : sg ≠ 47 := by omega
               rw [opB_n w47]
               show stC μb tk pl K b F0 (if tk q.1 = 20 then _ else if 6 ≤ tk q.1 ∧ tk q.1 < 14 then _ else _) _
               rw [if_neg htk.2.2, if_pos ⟨htk.1, htk.2.1⟩]
               exact hs112)
            | (have w47 : sg ≠ 47 := by omega
               rw [opB_n w47]
               cases r with
               | inl f => exact hs120
               | inr q =>
                 have e0 : toR tk (.inr q) = tk q.1 := rfl
                 show stC μb tk pl K b F0 (if tk q.1 = 20 then _ else if 6 ≤ tk q.1 ∧ tk q.1 < 14 then _ else _) _
                 have htn : ¬ tk q.1 = 20 := by omega
                 have htm : ¬ (6 ≤ tk q.1 ∧ tk q.1 < 14) := by omega
                 rw [if_neg htn, if_neg htm]
                 exact hs120)
            | (exfalso; omega)
theorem c_readOperand (l : Launch) (g : ot_G) (ln : Nat) (ext : ot_L) (μ : ot_M) (sg : Int) (hsg : 0 ≤ sg ∧ sg ≤ 62) (hs47 : sg ≠ 47) (μb : ot_M) (tk vl pl : Nat → Int) (K b : Nat) (F0 : Int → Int) (hg : gTk μb K tk vl pl) (r : RS) (hs : stC μb tk pl K b F0 r μ) (hroom : ∀ q, r = .inr q → b + q.2.length < 400 ∨ tk q.1 = 21) : ot_C l g yX4_readOperand cX4_readOperand 3 none 1 0 0 [.inr 49, .inl sg] (LL ln ext) μ (ot_pv (fun L2 μ2 => L2 = LL ln ext ∧ stC μb tk pl K b F0 (unB tk vl r) μ2)) := by
  have h := c_operand l g ln ext μ sg hsg μb tk vl pl K b F0 hg r hs hroom
  rw [opB_n hs47] at h
  exact h
theorem c_readFactor (l : Launch) (g : ot_G) (ln : Nat) (ext : ot_L) (μ : ot_M) (sg : Int) (hsg : sg = 42 ∨ sg = 47) (μb : ot_M) (tk vl pl : Nat → Int) (K b : Nat) (F0 : Int → Int) (hg : gTk μb K tk vl pl) (r : RS) (hs : stC μb tk pl K b F0 r μ) (hroom : ∀ q, r = .inr q → b + q.2.length < 400) : ot_C l g yX4_readOperand cX4_readOperand 3 none 1 0 0 [.inr 49, .inl sg] (LL ln ext) μ (ot_pv (fun L2 μ2 => L2 = LL ln ext ∧ stC μb tk pl K b F0 (fcB tk vl sg r) μ2)) := by
  have h := c_operand l g ln ext μ sg (by omega) μb tk vl pl K b F0 hg r hs (fun q hq => Or.inl (hroom q hq))
  rw [opB_md hsg] at h
  exact h

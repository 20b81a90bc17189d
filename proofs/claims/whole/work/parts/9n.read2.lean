def dmR (tk : Nat → Int) (t : Int) (r : RS) : RS := match r with
  | .inl f => .inl f
  | .inr q => if tk q.1 = t then .inr (q.1 + 1, q.2) else .inl (1, q.1)
def unB (tk vl : Nat → Int) (r : RS) : RS := match r with
  | .inl f => .inl f
  | .inr q => unR tk vl q.1 q.2
def fcB (tk vl : Nat → Int) (sg : Int) (r : RS) : RS := match r with
  | .inl f => .inl f
  | .inr q => if sg = 42 then unR tk vl q.1 q.2 else if tk q.1 ≠ 20 then .inl (1, q.1) else if vl q.1 = 0 then .inl (2, q.1) else .inr (q.1 + 1, q.2 ++ [(0, vl q.1)])
set_option maxRecDepth 100000 in
set_option maxHeartbeats 1000000 in
theorem c_demand (l : Launch) (g : ot_G) (ln : Nat) (ext : ot_L) (μ : ot_M) (t : Int) (ht : t = 59 ∨ t = 41) (μb : ot_M) (tk vl pl : Nat → Int) (K b : Nat) (F0 : Int → Int) (hg : gTk μb K tk vl pl) (r : RS) (hs : stC μb tk pl K b F0 r μ)  : ot_C l g yX4_demand cX4_demand 2 none 1 0 0 [.inr 49, .inl t] (LL ln ext) μ (ot_pv (fun L2 μ2 => L2 = LL ln ext ∧ stC μb tk pl K b F0 (dmR tk t r) μ2)) := by
  refine ot_enter (by decide) (Nat.le_of_ble_eq_true rfl) ?_
  intro p e s m args below meth c X hr
  have hK := hg.1
  have h41 := hg.2.1
  have h4 := stC_4 hs
  have h5 := stC_5 hs
  have h7 := stC_7 hs
  have h8 := stC_8 hs
  have htr := toR_rng (r := r) hg
  refine tt_aload_n X rfl dX4_demand_0 ?_
  refine tt_geti X fX4_54 (k_49 _ _) (by decide) (Or.inl rfl) dX4_demand_1 ?_
  refine tt_top (stC_tok hs) ?_
  refine tt_iload_n X rfl dX4_demand_4 ?_
  refine tt_icmp_ne X 15 (by omega) dX4_demand_5 (by decide) (fun b5 => ?_) (fun b5 => ?_)
  · refine tt_aload_n X rfl dX4_demand_15 ?_
    refine tt_iconst X dX4_demand_16 ?_
    refine tt_vv X rfl mX4_98 (c_refuse l g ln ext _ _ (stC_8 hs) (by have := stC_5 hs; omega)) (k_49 _ _) ⟨_, rfl, rfl⟩ rfl rfl (Nat.le_of_ble_eq_true rfl) (by decide) (by decide) (by decide) dX4_demand_17 (fun L17 μ17 hp => ?_)
    obtain ⟨rfl, e17⟩ := hp
    have hs17 := stC_ref hg hs (k := 1) (by omega) e17
    refine tt_vret X ⟨hr.1, hr.2.1⟩ (by decide) (by decide) dX4_demand_20 ?_
    refine ⟨rfl, ?_⟩
    first
      | (obtain ⟨q, rfl⟩ := toR_in (r := r) (tk := tk) (by omega)
         replace b5 : ¬ tk q.1 ≠ t := b5
         show stC μb tk pl K b F0 (if tk q.1 = t then _ else _) _
         rw [if_pos (by omega)]
         exact hs9)
      | (cases r with
         | inl f => exact hs17
         | inr q =>
           replace b5 : tk q.1 ≠ t := b5
           show stC μb tk pl K b F0 (if tk q.1 = t then _ else _) _
           rw [if_neg b5]
           exact hs17)
  · refine tt_aload_n X rfl dX4_demand_8 ?_
    refine tt_vv X rfl mX4_95 (c_step l g ln ext _ (stC_8 hs) (by have := stC_5 hs; omega) (by have := stC_4 hs; omega)) (k_49 _ _) ⟨_, rfl, rfl⟩ rfl rfl (Nat.le_of_ble_eq_true rfl) (by decide) (by decide) (by decide) dX4_demand_9 (fun L9 μ9 hp => ?_)
    obtain ⟨rfl, e9⟩ := hp
    have hs9 := stC_step hg hs (by omega) e9
    refine tt_goto X 20 dX4_demand_12 (by decide) ?_
    refine tt_vret X ⟨hr.1, hr.2.1⟩ (by decide) (by decide) dX4_demand_20 ?_
    refine ⟨rfl, ?_⟩
    first
      | (obtain ⟨q, rfl⟩ := toR_in (r := r) (tk := tk) (by omega)
         replace b5 : ¬ tk q.1 ≠ t := b5
         show stC μb tk pl K b F0 (if tk q.1 = t then _ else _) _
         rw [if_pos (by omega)]
         exact hs9)
      | (cases r with
         | inl f => exact hs17
         | inr q =>
           replace b5 : tk q.1 ≠ t := b5
           show stC μb tk pl K b F0 (if tk q.1 = t then _ else _) _
           rw [if_neg b5]
           exact hs17)
set_option maxRecDepth 100000 in
set_option maxHeartbeats 1000000 in
theorem c_readOperand (l : Launch) (g : ot_G) (ln : Nat) (ext : ot_L) (μ : ot_M) (μb : ot_M) (tk vl pl : Nat → Int) (K b : Nat) (F0 : Int → Int) (hg : gTk μb K tk vl pl) (r : RS) (hs : stC μb tk pl K b F0 r μ) (hroom : ∀ q, r = .inr q → b + q.2.length < 400 ∨ tk q.1 = 21)  : ot_C l g yX4_readOperand cX4_readOperand 1 none 1 0 0 [.inr 49] (LL ln ext) μ (ot_pv (fun L2 μ2 => L2 = LL ln ext ∧ stC μb tk pl K b F0 (unB tk vl r) μ2)) := by
  refine ot_enter (by decide) (Nat.le_of_ble_eq_true rfl) ?_
  intro p e s m args below meth c X hr
  have hK := hg.1
  have h41 := hg.2.1
  have h4 := stC_4 hs
  have h5 := stC_5 hs
  have h7 := stC_7 hs
  have h8 := stC_8 hs
  have htr := toR_rng (r := r) hg
  refine tt_aload_n X rfl dX4_readOperand_0 ?_
  refine tt_geti X fX4_54 (k_49 _ _) (by decide) (Or.inl rfl) dX4_readOperand_1 ?_
  refine tt_top (stC_tok hs) ?_
  refine tt_bipush X (by decide) dX4_readOperand_4 ?_
  refine tt_icmp_ne X 29 (by omega) dX4_readOperand_6 (by decide) (fun b6 => ?_) (fun b6 => ?_)
  · refine tt_aload_n X rfl dX4_readOperand_29 ?_
    refine tt_geti X fX4_54 (k_49 _ _) (by decide) (Or.inl rfl) dX4_readOperand_30 ?_
    refine tt_top (stC_tok hs) ?_
    refine tt_bipush X (by decide) dX4_readOperand_33 ?_
    refine tt_icmp_lt X 69 (by omega) dX4_readOperand_35 (by decide) (fun b35 => ?_) (fun b35 => ?_)
    · refine tt_aload_n X rfl dX4_readOperand_69 ?_
      refine tt_iconst X dX4_readOperand_70 ?_
      refine tt_vv X rfl mX4_98 (c_refuse l g ln ext _ _ (stC_8 hs) (by have := stC_5 hs; omega)) (k_49 _ _) ⟨_, rfl, rfl⟩ rfl rfl (Nat.le_of_ble_eq_true rfl) (by decide) (by decide) (by decide) dX4_readOperand_71 (fun L71 μ71 hp => ?_)
      obtain ⟨rfl, e71⟩ := hp
      have hs71 := stC_ref hg hs (k := 1) (by omega) e71
      refine tt_vret X ⟨hr.1, hr.2.1⟩ (by decide) (by decide) dX4_readOperand_74 ?_
      refine ⟨rfl, ?_⟩
      first
        | (show stC μb tk pl K b F0 (if tk q.1 = 20 then _ else _) _
           rw [if_pos htk]
           exact hs23)
        | (show stC μb tk pl K b F0 (if tk q.1 = 20 then _ else if 6 ≤ tk q.1 ∧ tk q.1 < 14 then _ else _) _
           rw [if_neg htk.2.2, if_pos ⟨htk.1, htk.2.1⟩]
           exact hs63)
        | (cases r with
           | inl f => exact hs71
           | inr q =>
             have e0 : toR tk (.inr q) = tk q.1 := rfl
             show stC μb tk pl K b F0 (if tk q.1 = 20 then _ else if 6 ≤ tk q.1 ∧ tk q.1 < 14 then _ else _) _
             rw [if_neg (by omega), if_neg (by omega)]
             exact hs71)
    · refine tt_aload_n X rfl dX4_readOperand_38 ?_
      refine tt_geti X fX4_54 (k_49 _ _) (by decide) (Or.inl rfl) dX4_readOperand_39 ?_
      refine tt_top (stC_tok hs) ?_
      refine tt_bipush X (by decide) dX4_readOperand_42 ?_
      refine tt_icmp_ge X 69 (by omega) dX4_readOperand_44 (by decide) (fun b44 => ?_) (fun b44 => ?_)
      · refine tt_aload_n X rfl dX4_readOperand_69 ?_
        refine tt_iconst X dX4_readOperand_70 ?_
        refine tt_vv X rfl mX4_98 (c_refuse l g ln ext _ _ (stC_8 hs) (by have := stC_5 hs; omega)) (k_49 _ _) ⟨_, rfl, rfl⟩ rfl rfl (Nat.le_of_ble_eq_true rfl) (by decide) (by decide) (by decide) dX4_readOperand_71 (fun L71 μ71 hp => ?_)
        obtain ⟨rfl, e71⟩ := hp
        have hs71 := stC_ref hg hs (k := 1) (by omega) e71
        refine tt_vret X ⟨hr.1, hr.2.1⟩ (by decide) (by decide) dX4_readOperand_74 ?_
        refine ⟨rfl, ?_⟩
        first
          | (show stC μb tk pl K b F0 (if tk q.1 = 20 then _ else _) _
             rw [if_pos htk]
             exact hs23)
          | (show stC μb tk pl K b F0 (if tk q.1 = 20 then _ else if 6 ≤ tk q.1 ∧ tk q.1 < 14 then _ else _) _
             rw [if_neg htk.2.2, if_pos ⟨htk.1, htk.2.1⟩]
             exact hs63)
          | (cases r with
             | inl f => exact hs71
             | inr q =>
               have e0 : toR tk (.inr q) = tk q.1 := rfl
               show stC μb tk pl K b F0 (if tk q.1 = 20 then _ else if 6 ≤ tk q.1 ∧ tk q.1 < 14 then _ else _) _
               rw [if_neg (by omega), if_neg (by omega)]
               exact hs71)
      · obtain ⟨q, rfl⟩ := toR_in (r := r) (tk := tk) (by omega)
        have hat := stC_at hs
        have hrq := hroom q rfl
        have htk : 6 ≤ tk q.1 ∧ tk q.1 < 14 ∧ tk q.1 ≠ 20 := ⟨by show 6 ≤ toR tk (.inr q); omega, by show toR tk (.inr q) < 14; omega, by show toR tk (.inr q) ≠ 20; omega⟩
        refine tt_aload_n X rfl dX4_readOperand_47 ?_
        refine tt_sipush X (by decide) dX4_readOperand_48 ?_
        refine tt_aload_n X rfl dX4_readOperand_51 ?_
        refine tt_geti X fX4_54 (k_49 _ _) (by decide) (Or.inl rfl) dX4_readOperand_52 ?_
        refine tt_top (stC_tok hs) ?_
        refine tt_iadd X dX4_readOperand_55 ?_
        refine tt_bipush X (by decide) dX4_readOperand_56 ?_
        refine tt_isub X dX4_readOperand_58 ?_
        refine tt_vv X rfl mX4_121 (c_emit l g ln ext _ _ (stC_7 hs)) (k_49 _ _) ⟨_, rfl, rfl⟩ rfl rfl (Nat.le_of_ble_eq_true rfl) (by decide) (by decide) (by decide) dX4_readOperand_59 (fun L59 μ59 hp => ?_)
        obtain ⟨rfl, e59⟩ := hp
        have hs59 := stC_emit (x := (1, tk q.1 - 6)) hs (fun q2 hq2 => by cases hq2; exact ⟨by show 10000 + toR tk (.inr q) - 6 = 10000 + (tk q.1 - 6); show 10000 + tk q.1 - 6 = _; omega, by omega⟩) e59
        refine tt_aload_n X rfl dX4_readOperand_62 ?_
        refine tt_vv X rfl mX4_95 (c_step l g ln ext _ (stC_8 hs59) (by have := stC_5 hs59; omega) (by have := stC_4 hs59; omega)) (k_49 _ _) ⟨_, rfl, rfl⟩ rfl rfl (Nat.le_of_ble_eq_true rfl) (by decide) (by decide) (by decide) dX4_readOperand_63 (fun L63 μ63 hp => ?_)
        obtain ⟨rfl, e63⟩ := hp
        have hs63 := stC_step hg hs59 (by show tk q.1 ≠ 21; omega) e63
        refine tt_goto X 74 dX4_readOperand_66 (by decide) ?_
        refine tt_vret X ⟨hr.1, hr.2.1⟩ (by decide) (by decide) dX4_readOperand_74 ?_
        refine ⟨rfl, ?_⟩
        first
          | (show stC μb tk pl K b F0 (if tk q.1 = 20 then _ else _) _
             rw [if_pos htk]
             exact hs23)
          | (show stC μb tk pl K b F0 (if tk q.1 = 20 then _ else if 6 ≤ tk q.1 ∧ tk q.1 < 14 then _ else _) _
             rw [if_neg htk.2.2, if_pos ⟨htk.1, htk.2.1⟩]
             exact hs63)
          | (cases r with
             | inl f => exact hs71
             | inr q =>
               have e0 : toR tk (.inr q) = tk q.1 := rfl
               show stC μb tk pl K b F0 (if tk q.1 = 20 then _ else if 6 ≤ tk q.1 ∧ tk q.1 < 14 then _ else _) _
               rw [if_neg (by omega), if_neg (by omega)]
               exact hs71)
  · obtain ⟨q, rfl⟩ := toR_in (r := r) (tk := tk) (by omega)
    have hat := stC_at hs
    have hrq := hroom q rfl
    have htk : tk q.1 = 20 := by show toR tk (.inr q) = 20; omega
    refine tt_aload_n X rfl dX4_readOperand_9 ?_
    refine tt_aload_n X rfl dX4_readOperand_10 ?_
    refine tt_getr X fX4_25 (k_49 _ _) (by decide) ⟨nofun, nofun⟩ rfl dX4_readOperand_11 ?_
    refine tt_aload_n X rfl dX4_readOperand_14 ?_
    refine tt_geti X fX4_51 (k_49 _ _) (by decide) (Or.inl rfl) dX4_readOperand_15 ?_
    refine tt_iaload X (k_57 _ _) (by omega) dX4_readOperand_18 ?_
    refine tt_top (y := vl q.1) (by rw [stC_o hs (k := 57) (by decide) (by decide), hat.1]; exact (hg.2.2.1 q.1 hat.2.1).2.2 htk) ?_
    refine tt_vv X rfl mX4_121 (c_emit l g ln ext _ _ (stC_7 hs)) (k_49 _ _) ⟨_, rfl, rfl⟩ rfl rfl (Nat.le_of_ble_eq_true rfl) (by decide) (by decide) (by decide) dX4_readOperand_19 (fun L19 μ19 hp => ?_)
    obtain ⟨rfl, e19⟩ := hp
    have hs19 := stC_emit (x := (0, vl q.1)) hs (fun q2 hq2 => by cases hq2; exact ⟨rfl, by omega⟩) e19
    refine tt_aload_n X rfl dX4_readOperand_22 ?_
    refine tt_vv X rfl mX4_95 (c_step l g ln ext _ (stC_8 hs19) (by have := stC_5 hs19; omega) (by have := stC_4 hs19; omega)) (k_49 _ _) ⟨_, rfl, rfl⟩ rfl rfl (Nat.le_of_ble_eq_true rfl) (by decide) (by decide) (by decide) dX4_readOperand_23 (fun L23 μ23 hp => ?_)
    obtain ⟨rfl, e23⟩ := hp
    have hs23 := stC_step hg hs19 (by show tk q.1 ≠ 21; omega) e23
    refine tt_goto X 74 dX4_readOperand_26 (by decide) ?_
    refine tt_vret X ⟨hr.1, hr.2.1⟩ (by decide) (by decide) dX4_readOperand_74 ?_
    refine ⟨rfl, ?_⟩
    first
      | (show stC μb tk pl K b F0 (if tk q.1 = 20 then _ else _) _
         rw [if_pos htk]
         exact hs23)
      | (show stC μb tk pl K b F0 (if tk q.1 = 20 then _ else if 6 ≤ tk q.1 ∧ tk q.1 < 14 then _ else _) _
         rw [if_neg htk.2.2, if_pos ⟨htk.1, htk.2.1⟩]
         exact hs63)
      | (cases r with
         | inl f => exact hs71
         | inr q =>
           have e0 : toR tk (.inr q) = tk q.1 := rfl
           show stC μb tk pl K b F0 (if tk q.1 = 20 then _ else if 6 ≤ tk q.1 ∧ tk q.1 < 14 then _ else _) _
           rw [if_neg (by omega), if_neg (by omega)]
           exact hs71)
set_option maxRecDepth 100000 in
set_option maxHeartbeats 1000000 in
theorem c_readFactor (l : Launch) (g : ot_G) (ln : Nat) (ext : ot_L) (μ : ot_M) (sg : Int) (hsg : sg = 42 ∨ sg = 47) (μb : ot_M) (tk vl pl : Nat → Int) (K b : Nat) (F0 : Int → Int) (hg : gTk μb K tk vl pl) (r : RS) (hs : stC μb tk pl K b F0 r μ) (hroom : ∀ q, r = .inr q → b + q.2.length < 400)  : ot_C l g yX4_readFactor cX4_readFactor 2 none 2 0 0 [.inr 49, .inl sg] (LL ln ext) μ (ot_pv (fun L2 μ2 => L2 = LL ln ext ∧ stC μb tk pl K b F0 (fcB tk vl sg r) μ2)) := by
  refine ot_enter (by decide) (Nat.le_of_ble_eq_true rfl) ?_
  intro p e s m args below meth c X hr
  have hK := hg.1
  have h41 := hg.2.1
  have h4 := stC_4 hs
  have h5 := stC_5 hs
  have h7 := stC_7 hs
  have h8 := stC_8 hs
  have htr := toR_rng (r := r) hg
  refine tt_iload_n X rfl dX4_readFactor_0 ?_
  refine tt_bipush X (by decide) dX4_readFactor_1 ?_
  refine tt_icmp_eq X 27 (by omega) dX4_readFactor_3 (by decide) (fun b3 => ?_) (fun b3 => ?_)
  · refine tt_aload_n X rfl dX4_readFactor_27 ?_
    refine tt_vv X rfl mX4_133 (c_readOperand l g ln ext _ μb tk vl pl K b F0 hg _ hs (fun q hq => Or.inl (hroom q hq))) (k_49 _ _) ⟨_, rfl, rfl⟩ rfl rfl (Nat.le_of_ble_eq_true rfl) (by decide) (by decide) (by decide) dX4_readFactor_28 (fun L28 μ28 hp => ?_)
    obtain ⟨rfl, hs28⟩ := hp
    refine tt_goto X 52 dX4_readFactor_31 (by decide) ?_
    refine tt_vret X ⟨hr.1, hr.2.1⟩ (by decide) (by decide) dX4_readFactor_52 ?_
    refine ⟨rfl, ?_⟩
    first
      | (exfalso; omega)
      | (have h42 : sg = 42 := by omega
         cases r with
         | inl f => exact hs28
         | inr q =>
           show stC μb tk pl K b F0 (if sg = 42 then _ else _) _
           rw [if_pos h42]
           exact hs28)
      | (have hne : vl q.1 ≠ 0 := by omega
         show stC μb tk pl K b F0 (if sg = 42 then _ else if tk q.1 ≠ 20 then _ else if vl q.1 = 0 then _ else _) _
         rw [if_neg (by omega), if_neg (by omega), if_neg hne]
         have e1 : unB tk vl (.inr q) = .inr (q.1 + 1, q.2 ++ [(0, vl q.1)]) := if_pos htk
         rw [e1] at hs28
         exact hs28)
      | (cases r with
         | inl f => exact hs49
         | inr q =>
           have e0 : toR tk (.inr q) = tk q.1 := rfl
           show stC μb tk pl K b F0 (if sg = 42 then _ else if tk q.1 ≠ 20 then _ else _) _
           rw [if_neg (by omega), if_pos (by omega)]
           exact hs49)
      | (show stC μb tk pl K b F0 (if sg = 42 then _ else if tk q.1 ≠ 20 then _ else if vl q.1 = 0 then _ else _) _
         rw [if_neg (by omega), if_neg (by omega), if_pos (by omega)]
         exact hs49)
  · refine tt_aload_n X rfl dX4_readFactor_6 ?_
    refine tt_geti X fX4_54 (k_49 _ _) (by decide) (Or.inl rfl) dX4_readFactor_7 ?_
    refine tt_top (stC_tok hs) ?_
    refine tt_bipush X (by decide) dX4_readFactor_10 ?_
    refine tt_icmp_ne X 34 (by omega) dX4_readFactor_12 (by decide) (fun b12 => ?_) (fun b12 => ?_)
    · refine tt_aload_n X rfl dX4_readFactor_34 ?_
      refine tt_aload_n X rfl dX4_readFactor_35 ?_
      refine tt_geti X fX4_54 (k_49 _ _) (by decide) (Or.inl rfl) dX4_readFactor_36 ?_
      refine tt_top (stC_tok hs) ?_
      refine tt_bipush X (by decide) dX4_readFactor_39 ?_
      refine tt_icmp_ne X 48 (by omega) dX4_readFactor_41 (by decide) (fun b41 => ?_) (fun b41 => ?_)
      · refine tt_iconst X dX4_readFactor_48 ?_
        refine tt_vv X rfl mX4_98 (c_refuse l g ln ext _ _ (stC_8 hs) (by have := stC_5 hs; omega)) (k_49 _ _) ⟨_, rfl, rfl⟩ rfl rfl (Nat.le_of_ble_eq_true rfl) (by decide) (by decide) (by decide) dX4_readFactor_49 (fun L49 μ49 hp => ?_)
        obtain ⟨rfl, e49⟩ := hp
        have hs49 := stC_ref hg hs (by omega) e49
        refine tt_vret X ⟨hr.1, hr.2.1⟩ (by decide) (by decide) dX4_readFactor_52 ?_
        refine ⟨rfl, ?_⟩
        first
          | (exfalso; omega)
          | (have h42 : sg = 42 := by omega
             cases r with
             | inl f => exact hs28
             | inr q =>
               show stC μb tk pl K b F0 (if sg = 42 then _ else _) _
               rw [if_pos h42]
               exact hs28)
          | (have hne : vl q.1 ≠ 0 := by omega
             show stC μb tk pl K b F0 (if sg = 42 then _ else if tk q.1 ≠ 20 then _ else if vl q.1 = 0 then _ else _) _
             rw [if_neg (by omega), if_neg (by omega), if_neg hne]
             have e1 : unB tk vl (.inr q) = .inr (q.1 + 1, q.2 ++ [(0, vl q.1)]) := if_pos htk
             rw [e1] at hs28
             exact hs28)
          | (cases r with
             | inl f => exact hs49
             | inr q =>
               have e0 : toR tk (.inr q) = tk q.1 := rfl
               show stC μb tk pl K b F0 (if sg = 42 then _ else if tk q.1 ≠ 20 then _ else _) _
               rw [if_neg (by omega), if_pos (by omega)]
               exact hs49)
          | (show stC μb tk pl K b F0 (if sg = 42 then _ else if tk q.1 ≠ 20 then _ else if vl q.1 = 0 then _ else _) _
             rw [if_neg (by omega), if_neg (by omega), if_pos (by omega)]
             exact hs49)
      · refine tt_iconst X dX4_readFactor_44 ?_
        refine tt_goto X 49 dX4_readFactor_45 (by decide) ?_
        refine tt_vv X rfl mX4_98 (c_refuse l g ln ext _ _ (stC_8 hs) (by have := stC_5 hs; omega)) (k_49 _ _) ⟨_, rfl, rfl⟩ rfl rfl (Nat.le_of_ble_eq_true rfl) (by decide) (by decide) (by decide) dX4_readFactor_49 (fun L49 μ49 hp => ?_)
        obtain ⟨rfl, e49⟩ := hp
        have hs49 := stC_ref hg hs (by omega) e49
        refine tt_vret X ⟨hr.1, hr.2.1⟩ (by decide) (by decide) dX4_readFactor_52 ?_
        refine ⟨rfl, ?_⟩
        first
          | (exfalso; omega)
          | (have h42 : sg = 42 := by omega
             cases r with
             | inl f => exact hs28
             | inr q =>
               show stC μb tk pl K b F0 (if sg = 42 then _ else _) _
               rw [if_pos h42]
               exact hs28)
          | (have hne : vl q.1 ≠ 0 := by omega
             show stC μb tk pl K b F0 (if sg = 42 then _ else if tk q.1 ≠ 20 then _ else if vl q.1 = 0 then _ else _) _
             rw [if_neg (by omega), if_neg (by omega), if_neg hne]
             have e1 : unB tk vl (.inr q) = .inr (q.1 + 1, q.2 ++ [(0, vl q.1)]) := if_pos htk
             rw [e1] at hs28
             exact hs28)
          | (cases r with
             | inl f => exact hs49
             | inr q =>
               have e0 : toR tk (.inr q) = tk q.1 := rfl
               show stC μb tk pl K b F0 (if sg = 42 then _ else if tk q.1 ≠ 20 then _ else _) _
               rw [if_neg (by omega), if_pos (by omega)]
               exact hs49)
          | (show stC μb tk pl K b F0 (if sg = 42 then _ else if tk q.1 ≠ 20 then _ else if vl q.1 = 0 then _ else _) _
             rw [if_neg (by omega), if_neg (by omega), if_pos (by omega)]
             exact hs49)
    · obtain ⟨q, rfl⟩ := toR_in (r := r) (tk := tk) (by omega)
      have hat := stC_at hs
      have hrq := hroom q rfl
      have htk : tk q.1 = 20 := by show toR tk (.inr q) = 20; omega
      have hvr := hg.2.2.2.2.2.2 q.1
      refine tt_aload_n X rfl dX4_readFactor_15 ?_
      refine tt_getr X fX4_25 (k_49 _ _) (by decide) ⟨nofun, nofun⟩ rfl dX4_readFactor_16 ?_
      refine tt_aload_n X rfl dX4_readFactor_19 ?_
      refine tt_geti X fX4_51 (k_49 _ _) (by decide) (Or.inl rfl) dX4_readFactor_20 ?_
      refine tt_iaload X (k_57 _ _) (by omega) dX4_readFactor_23 ?_
      refine tt_top (y := vl q.1) (by rw [stC_o hs (k := 57) (by decide) (by decide), hat.1]; exact (hg.2.2.1 q.1 hat.2.1).2.2 htk) ?_
      refine tt_if_eq X 34 (by omega) dX4_readFactor_24 (by decide) (fun b24 => ?_) (fun b24 => ?_)
      · refine tt_aload_n X rfl dX4_readFactor_34 ?_
        refine tt_aload_n X rfl dX4_readFactor_35 ?_
        refine tt_geti X fX4_54 (k_49 _ _) (by decide) (Or.inl rfl) dX4_readFactor_36 ?_
        refine tt_top (stC_tok hs) ?_
        refine tt_bipush X (by decide) dX4_readFactor_39 ?_
        refine tt_icmp_ne X 48 (by omega) dX4_readFactor_41 (by decide) (fun b41 => ?_) (fun b41 => ?_)
        · refine tt_iconst X dX4_readFactor_48 ?_
          refine tt_vv X rfl mX4_98 (c_refuse l g ln ext _ _ (stC_8 hs) (by have := stC_5 hs; omega)) (k_49 _ _) ⟨_, rfl, rfl⟩ rfl rfl (Nat.le_of_ble_eq_true rfl) (by decide) (by decide) (by decide) dX4_readFactor_49 (fun L49 μ49 hp => ?_)
          obtain ⟨rfl, e49⟩ := hp
          have hs49 := stC_ref hg hs (by omega) e49
          refine tt_vret X ⟨hr.1, hr.2.1⟩ (by decide) (by decide) dX4_readFactor_52 ?_
          refine ⟨rfl, ?_⟩
          first
            | (exfalso; omega)
            | (have h42 : sg = 42 := by omega
               cases r with
               | inl f => exact hs28
               | inr q =>
                 show stC μb tk pl K b F0 (if sg = 42 then _ else _) _
                 rw [if_pos h42]
                 exact hs28)
            | (have hne : vl q.1 ≠ 0 := by omega
               show stC μb tk pl K b F0 (if sg = 42 then _ else if tk q.1 ≠ 20 then _ else if vl q.1 = 0 then _ else _) _
               rw [if_neg (by omega), if_neg (by omega), if_neg hne]
               have e1 : unB tk vl (.inr q) = .inr (q.1 + 1, q.2 ++ [(0, vl q.1)]) := if_pos htk
               rw [e1] at hs28
               exact hs28)
            | (cases r with
               | inl f => exact hs49
               | inr q =>
                 have e0 : toR tk (.inr q) = tk q.1 := rfl
                 show stC μb tk pl K b F0 (if sg = 42 then _ else if tk q.1 ≠ 20 then _ else _) _
                 rw [if_neg (by omega), if_pos (by omega)]
                 exact hs49)
            | (show stC μb tk pl K b F0 (if sg = 42 then _ else if tk q.1 ≠ 20 then _ else if vl q.1 = 0 then _ else _) _
               rw [if_neg (by omega), if_neg (by omega), if_pos (by omega)]
               exact hs49)
        · refine tt_iconst X dX4_readFactor_44 ?_
          refine tt_goto X 49 dX4_readFactor_45 (by decide) ?_
          refine tt_vv X rfl mX4_98 (c_refuse l g ln ext _ _ (stC_8 hs) (by have := stC_5 hs; omega)) (k_49 _ _) ⟨_, rfl, rfl⟩ rfl rfl (Nat.le_of_ble_eq_true rfl) (by decide) (by decide) (by decide) dX4_readFactor_49 (fun L49 μ49 hp => ?_)
          obtain ⟨rfl, e49⟩ := hp
          have hs49 := stC_ref hg hs (by omega) e49
          refine tt_vret X ⟨hr.1, hr.2.1⟩ (by decide) (by decide) dX4_readFactor_52 ?_
          refine ⟨rfl, ?_⟩
          first
            | (exfalso; omega)
            | (have h42 : sg = 42 := by omega
               cases r with
               | inl f => exact hs28
               | inr q =>
                 show stC μb tk pl K b F0 (if sg = 42 then _ else _) _
                 rw [if_pos h42]
                 exact hs28)
            | (have hne : vl q.1 ≠ 0 := by omega
               show stC μb tk pl K b F0 (if sg = 42 then _ else if tk q.1 ≠ 20 then _ else if vl q.1 = 0 then _ else _) _
               rw [if_neg (by omega), if_neg (by omega), if_neg hne]
               have e1 : unB tk vl (.inr q) = .inr (q.1 + 1, q.2 ++ [(0, vl q.1)]) := if_pos htk
               rw [e1] at hs28
               exact hs28)
            | (cases r with
               | inl f => exact hs49
               | inr q =>
                 have e0 : toR tk (.inr q) = tk q.1 := rfl
                 show stC μb tk pl K b F0 (if sg = 42 then _ else if tk q.1 ≠ 20 then _ else _) _
                 rw [if_neg (by omega), if_pos (by omega)]
                 exact hs49)
            | (show stC μb tk pl K b F0 (if sg = 42 then _ else if tk q.1 ≠ 20 then _ else if vl q.1 = 0 then _ else _) _
               rw [if_neg (by omega), if_neg (by omega), if_pos (by omega)]
               exact hs49)
      · refine tt_aload_n X rfl dX4_readFactor_27 ?_
        refine tt_vv X rfl mX4_133 (c_readOperand l g ln ext _ μb tk vl pl K b F0 hg _ hs (fun q hq => Or.inl (hroom q hq))) (k_49 _ _) ⟨_, rfl, rfl⟩ rfl rfl (Nat.le_of_ble_eq_true rfl) (by decide) (by decide) (by decide) dX4_readFactor_28 (fun L28 μ28 hp => ?_)
        obtain ⟨rfl, hs28⟩ := hp
        refine tt_goto X 52 dX4_readFactor_31 (by decide) ?_
        refine tt_vret X ⟨hr.1, hr.2.1⟩ (by decide) (by decide) dX4_readFactor_52 ?_
        refine ⟨rfl, ?_⟩
        first
          | (exfalso; omega)
          | (have h42 : sg = 42 := by omega
             cases r with
             | inl f => exact hs28
             | inr q =>
               show stC μb tk pl K b F0 (if sg = 42 then _ else _) _
               rw [if_pos h42]
               exact hs28)
          | (have hne : vl q.1 ≠ 0 := by omega
             show stC μb tk pl K b F0 (if sg = 42 then _ else if tk q.1 ≠ 20 then _ else if vl q.1 = 0 then _ else _) _
             rw [if_neg (by omega), if_neg (by omega), if_neg hne]
             have e1 : unB tk vl (.inr q) = .inr (q.1 + 1, q.2 ++ [(0, vl q.1)]) := if_pos htk
             rw [e1] at hs28
             exact hs28)
          | (cases r with
             | inl f => exact hs49
             | inr q =>
               have e0 : toR tk (.inr q) = tk q.1 := rfl
               show stC μb tk pl K b F0 (if sg = 42 then _ else if tk q.1 ≠ 20 then _ else _) _
               rw [if_neg (by omega), if_pos (by omega)]
               exact hs49)
          | (show stC μb tk pl K b F0 (if sg = 42 then _ else if tk q.1 ≠ 20 then _ else if vl q.1 = 0 then _ else _) _
             rw [if_neg (by omega), if_neg (by omega), if_pos (by omega)]
             exact hs49)

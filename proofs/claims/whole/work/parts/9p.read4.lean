def cmB (tk vl : Nat → Int) (r x : RS) : Prop := match r with
  | .inl f => x = .inl f
  | .inr q => cmR tk vl q.1 q.2 x
theorem enc_cm {t : Int} (h : t = 60 ∨ t = 61 ∨ t = 62) : -t = enc (cmC t) 0 := by
  rcases h with rfl | rfl | rfl <;> rfl
set_option maxRecDepth 100000 in
set_option maxHeartbeats 1000000 in
theorem c_readComparison (l : Launch) (g : ot_G) (ln : Nat) (ext : ot_L) (μ : ot_M) (μb : ot_M) (tk vl pl : Nat → Int) (K b : Nat) (F0 : Int → Int) (hg : gTk μb K tk vl pl) (r : RS) (hs : stC μb tk pl K b F0 r μ) (hroom : ∀ q, r = .inr q → b + q.2.length ≤ q.1)  : ot_C l g yX4_readComparison cX4_readComparison 2 none 4 0 0 [.inr 49] (LL ln ext) μ (ot_pv (fun L2 μ2 => L2 = LL ln ext ∧ ∃ r2, cmB tk vl r r2 ∧ stC μb tk pl K b F0 r2 μ2 ∧ ∀ q0 q2, r = .inr q0 → r2 = .inr q2 → q2.2.length + q0.1 = q0.2.length + q2.1 ∧ q0.1 ≤ q2.1)) := by
  refine ot_enter (by decide) (Nat.le_of_ble_eq_true rfl) ?_
  intro p e s m args below meth c X hr
  have hK := hg.1
  have h41 := hg.2.1
  have h4 := stC_4 hs
  have h5 := stC_5 hs
  have h7 := stC_7 hs
  have h8 := stC_8 hs
  have htr := toR_rng (r := r) hg
  refine tt_aload_n X rfl dX4_readComparison_0 ?_
  refine tt_vv X rfl mX4_130 (c_readSum l g ln ext _ μb tk vl pl K b F0 hg _ hs hroom) (k_49 _ _) ⟨_, rfl, rfl⟩ rfl rfl (Nat.le_of_ble_eq_true rfl) (by decide) (by decide) (by decide) dX4_readComparison_1 (fun L1 μ1 hp => ?_)
  obtain ⟨rfl, r1, hr1, hs1, hc1⟩ := hp
  have htr1 := toR_rng (r := r1) hg
  refine tt_aload_n X rfl dX4_readComparison_4 ?_
  refine tt_geti X fX4_54 (k_49 _ _) (by decide) (Or.inl rfl) dX4_readComparison_5 ?_
  try simp (disch := decide) only [ot_rd, ot_rs, ot_rf, ot_ucd, ot_ucs]
  refine tt_top (stC_tok hs1) ?_
  refine tt_istore_n X dX4_readComparison_8 (by decide) ?_
  refine tt_iload_n X rfl dX4_readComparison_9 ?_
  refine tt_bipush X (by decide) dX4_readComparison_10 ?_
  refine tt_icmp_eq X 27 (by first | omega | (simp (disch := decide) only [ot_rd, ot_rs, ot_rf, ot_ucd, ot_ucs]; omega)) dX4_readComparison_12 (by decide) (fun b12 => ?_) (fun b12 => ?_)
  · obtain ⟨q, rfl⟩ := toR_in (r := r1) (tk := tk) (by omega)
    have e0 : toR tk (.inr q) = tk q.1 := rfl
    have hq0 : ∃ q0, r = .inr q0 := by
      cases r with
      | inl f => cases hr1
      | inr q0 => exact ⟨q0, rfl⟩
    obtain ⟨q0, hq0⟩ := hq0
    have hb1 := hc1 q0 q hq0 rfl
    have hb2 := hroom q0 hq0
    have hrm : ∀ q2, stR (.inr q) = .inr q2 → b + q2.2.length ≤ q2.1 := fun q2 hq2 => by
      cases hq2
      show b + q.2.length ≤ q.1 + 1
      omega
    refine tt_aload_n X rfl dX4_readComparison_27 ?_
    refine tt_vv X rfl mX4_95 (c_step l g ln ext _ (stC_8 hs1) (by have := stC_5 hs1; omega) (by have := stC_4 hs1; omega)) (k_49 _ _) ⟨_, rfl, rfl⟩ rfl rfl (Nat.le_of_ble_eq_true rfl) (by decide) (by decide) (by decide) dX4_readComparison_28 (fun L28 μ28 hp => ?_)
    obtain ⟨rfl, e28⟩ := hp
    have hs28 := stC_step hg hs1 (by omega) e28
    refine tt_aload_n X rfl dX4_readComparison_31 ?_
    refine tt_vv X rfl mX4_130 (c_readSum l g ln ext _ μb tk vl pl K b F0 hg _ hs28 hrm) (k_49 _ _) ⟨_, rfl, rfl⟩ rfl rfl (Nat.le_of_ble_eq_true rfl) (by decide) (by decide) (by decide) dX4_readComparison_32 (fun L32 μ32 hp => ?_)
    obtain ⟨rfl, r2, hr2, hs2, hc2⟩ := hp
    refine tt_aload_n X rfl dX4_readComparison_35 ?_
    refine tt_iload_n X rfl dX4_readComparison_36 ?_
    refine tt_ineg X dX4_readComparison_37 ?_
    refine tt_vv X rfl mX4_121 (c_emit l g ln ext _ _ (stC_7 hs2)) (k_49 _ _) ⟨_, rfl, rfl⟩ rfl rfl (Nat.le_of_ble_eq_true rfl) (by decide) (by decide) (by decide) dX4_readComparison_38 (fun L38 μ38 hp => ?_)
    obtain ⟨rfl, e38⟩ := hp
    have hs38 := stC_emit (x := (cmC (tk q.1), 0)) hs2 (fun q2 hq2 => by
      subst hq2
      have h1 := hc2 (q.1 + 1, q.2) q2 rfl rfl
      dsimp only at h1
      have hk2 := (stC_at hs2).2.1
      exact ⟨enc_cm (by omega), by omega⟩) e38
    refine tt_goto X 49 dX4_readComparison_41 (by decide) ?_
    refine tt_vret X ⟨hr.1, hr.2.1⟩ (by decide) (by decide) dX4_readComparison_49 ?_
    refine ⟨rfl, ?_⟩
    first
      | (subst hq0
         refine ⟨_, ?_, hs38, fun q1 q2 h1 h2 => ?_⟩
         · refine ⟨.inr q, hr1, ?_⟩
           show if tk q.1 = 60 ∨ tk q.1 = 61 ∨ tk q.1 = 62 then _ else _
           rw [if_pos (by omega)]
           refine ⟨r2, hr2, ?_⟩
           cases r2 with
           | inl f => rfl
           | inr u => rfl
         · cases h1
           cases r2 with
           | inl f => cases h2
           | inr u =>
             cases h2
             have h3 := hc2 (q.1 + 1, q.2) u rfl rfl
             dsimp only at h3
             show (u.2 ++ _).length + q0.1 = q0.2.length + u.1 ∧ q0.1 ≤ u.1
             rw [List.length_append]
             show u.2.length + 1 + q0.1 = _ ∧ _
             omega)
      | (cases r with
         | inl f =>
           have hr1e : r1 = .inl f := hr1
           subst hr1e
           exact ⟨_, rfl, hs46, fun _ _ h => by cases h⟩
         | inr q0 =>
           refine ⟨_, ?_, hs46, fun q1 q2 h1 h2 => ?_⟩
           · refine ⟨r1, hr1, ?_⟩
             cases r1 with
             | inl f => rfl
             | inr q =>
               have e0 : toR tk (.inr q) = tk q.1 := rfl
               show if tk q.1 = 60 ∨ tk q.1 = 61 ∨ tk q.1 = 62 then _ else _
               rw [if_neg (by omega)]
               rfl
           · cases r1 with
             | inl f => cases h2
             | inr q => cases h2)
  · refine tt_iload_n X rfl dX4_readComparison_15 ?_
    refine tt_bipush X (by decide) dX4_readComparison_16 ?_
    refine tt_icmp_eq X 27 (by first | omega | (simp (disch := decide) only [ot_rd, ot_rs, ot_rf, ot_ucd, ot_ucs]; omega)) dX4_readComparison_18 (by decide) (fun b18 => ?_) (fun b18 => ?_)
    · obtain ⟨q, rfl⟩ := toR_in (r := r1) (tk := tk) (by omega)
      have e0 : toR tk (.inr q) = tk q.1 := rfl
      have hq0 : ∃ q0, r = .inr q0 := by
        cases r with
        | inl f => cases hr1
        | inr q0 => exact ⟨q0, rfl⟩
      obtain ⟨q0, hq0⟩ := hq0
      have hb1 := hc1 q0 q hq0 rfl
      have hb2 := hroom q0 hq0
      have hrm : ∀ q2, stR (.inr q) = .inr q2 → b + q2.2.length ≤ q2.1 := fun q2 hq2 => by
        cases hq2
        show b + q.2.length ≤ q.1 + 1
        omega
      refine tt_aload_n X rfl dX4_readComparison_27 ?_
      refine tt_vv X rfl mX4_95 (c_step l g ln ext _ (stC_8 hs1) (by have := stC_5 hs1; omega) (by have := stC_4 hs1; omega)) (k_49 _ _) ⟨_, rfl, rfl⟩ rfl rfl (Nat.le_of_ble_eq_true rfl) (by decide) (by decide) (by decide) dX4_readComparison_28 (fun L28 μ28 hp => ?_)
      obtain ⟨rfl, e28⟩ := hp
      have hs28 := stC_step hg hs1 (by omega) e28
      refine tt_aload_n X rfl dX4_readComparison_31 ?_
      refine tt_vv X rfl mX4_130 (c_readSum l g ln ext _ μb tk vl pl K b F0 hg _ hs28 hrm) (k_49 _ _) ⟨_, rfl, rfl⟩ rfl rfl (Nat.le_of_ble_eq_true rfl) (by decide) (by decide) (by decide) dX4_readComparison_32 (fun L32 μ32 hp => ?_)
      obtain ⟨rfl, r2, hr2, hs2, hc2⟩ := hp
      refine tt_aload_n X rfl dX4_readComparison_35 ?_
      refine tt_iload_n X rfl dX4_readComparison_36 ?_
      refine tt_ineg X dX4_readComparison_37 ?_
      refine tt_vv X rfl mX4_121 (c_emit l g ln ext _ _ (stC_7 hs2)) (k_49 _ _) ⟨_, rfl, rfl⟩ rfl rfl (Nat.le_of_ble_eq_true rfl) (by decide) (by decide) (by decide) dX4_readComparison_38 (fun L38 μ38 hp => ?_)
      obtain ⟨rfl, e38⟩ := hp
      have hs38 := stC_emit (x := (cmC (tk q.1), 0)) hs2 (fun q2 hq2 => by
        subst hq2
        have h1 := hc2 (q.1 + 1, q.2) q2 rfl rfl
        dsimp only at h1
        have hk2 := (stC_at hs2).2.1
        exact ⟨enc_cm (by omega), by omega⟩) e38
      refine tt_goto X 49 dX4_readComparison_41 (by decide) ?_
      refine tt_vret X ⟨hr.1, hr.2.1⟩ (by decide) (by decide) dX4_readComparison_49 ?_
      refine ⟨rfl, ?_⟩
      first
        | (subst hq0
           refine ⟨_, ?_, hs38, fun q1 q2 h1 h2 => ?_⟩
           · refine ⟨.inr q, hr1, ?_⟩
             show if tk q.1 = 60 ∨ tk q.1 = 61 ∨ tk q.1 = 62 then _ else _
             rw [if_pos (by omega)]
             refine ⟨r2, hr2, ?_⟩
             cases r2 with
             | inl f => rfl
             | inr u => rfl
           · cases h1
             cases r2 with
             | inl f => cases h2
             | inr u =>
               cases h2
               have h3 := hc2 (q.1 + 1, q.2) u rfl rfl
               dsimp only at h3
               show (u.2 ++ _).length + q0.1 = q0.2.length + u.1 ∧ q0.1 ≤ u.1
               rw [List.length_append]
               show u.2.length + 1 + q0.1 = _ ∧ _
               omega)
        | (cases r with
           | inl f =>
             have hr1e : r1 = .inl f := hr1
             subst hr1e
             exact ⟨_, rfl, hs46, fun _ _ h => by cases h⟩
           | inr q0 =>
             refine ⟨_, ?_, hs46, fun q1 q2 h1 h2 => ?_⟩
             · refine ⟨r1, hr1, ?_⟩
               cases r1 with
               | inl f => rfl
               | inr q =>
                 have e0 : toR tk (.inr q) = tk q.1 := rfl
                 show if tk q.1 = 60 ∨ tk q.1 = 61 ∨ tk q.1 = 62 then _ else _
                 rw [if_neg (by omega)]
                 rfl
             · cases r1 with
               | inl f => cases h2
               | inr q => cases h2)
    · refine tt_iload_n X rfl dX4_readComparison_21 ?_
      refine tt_bipush X (by decide) dX4_readComparison_22 ?_
      refine tt_icmp_ne X 44 (by first | omega | (simp (disch := decide) only [ot_rd, ot_rs, ot_rf, ot_ucd, ot_ucs]; omega)) dX4_readComparison_24 (by decide) (fun b24 => ?_) (fun b24 => ?_)
      · refine tt_aload_n X rfl dX4_readComparison_44 ?_
        refine tt_iconst X dX4_readComparison_45 ?_
        refine tt_vv X rfl mX4_98 (c_refuse l g ln ext _ _ (stC_8 hs1) (by have := stC_5 hs1; omega)) (k_49 _ _) ⟨_, rfl, rfl⟩ rfl rfl (Nat.le_of_ble_eq_true rfl) (by decide) (by decide) (by decide) dX4_readComparison_46 (fun L46 μ46 hp => ?_)
        obtain ⟨rfl, e46⟩ := hp
        have hs46 := stC_ref hg hs1 (k := 1) (by omega) e46
        refine tt_vret X ⟨hr.1, hr.2.1⟩ (by decide) (by decide) dX4_readComparison_49 ?_
        refine ⟨rfl, ?_⟩
        first
          | (subst hq0
             refine ⟨_, ?_, hs38, fun q1 q2 h1 h2 => ?_⟩
             · refine ⟨.inr q, hr1, ?_⟩
               show if tk q.1 = 60 ∨ tk q.1 = 61 ∨ tk q.1 = 62 then _ else _
               rw [if_pos (by omega)]
               refine ⟨r2, hr2, ?_⟩
               cases r2 with
               | inl f => rfl
               | inr u => rfl
             · cases h1
               cases r2 with
               | inl f => cases h2
               | inr u =>
                 cases h2
                 have h3 := hc2 (q.1 + 1, q.2) u rfl rfl
                 dsimp only at h3
                 show (u.2 ++ _).length + q0.1 = q0.2.length + u.1 ∧ q0.1 ≤ u.1
                 rw [List.length_append]
                 show u.2.length + 1 + q0.1 = _ ∧ _
                 omega)
          | (cases r with
             | inl f =>
               have hr1e : r1 = .inl f := hr1
               subst hr1e
               exact ⟨_, rfl, hs46, fun _ _ h => by cases h⟩
             | inr q0 =>
               refine ⟨_, ?_, hs46, fun q1 q2 h1 h2 => ?_⟩
               · refine ⟨r1, hr1, ?_⟩
                 cases r1 with
                 | inl f => rfl
                 | inr q =>
                   have e0 : toR tk (.inr q) = tk q.1 := rfl
                   show if tk q.1 = 60 ∨ tk q.1 = 61 ∨ tk q.1 = 62 then _ else _
                   rw [if_neg (by omega)]
                   rfl
               · cases r1 with
                 | inl f => cases h2
                 | inr q => cases h2)
      · obtain ⟨q, rfl⟩ := toR_in (r := r1) (tk := tk) (by omega)
        have e0 : toR tk (.inr q) = tk q.1 := rfl
        have hq0 : ∃ q0, r = .inr q0 := by
          cases r with
          | inl f => cases hr1
          | inr q0 => exact ⟨q0, rfl⟩
        obtain ⟨q0, hq0⟩ := hq0
        have hb1 := hc1 q0 q hq0 rfl
        have hb2 := hroom q0 hq0
        have hrm : ∀ q2, stR (.inr q) = .inr q2 → b + q2.2.length ≤ q2.1 := fun q2 hq2 => by
          cases hq2
          show b + q.2.length ≤ q.1 + 1
          omega
        refine tt_aload_n X rfl dX4_readComparison_27 ?_
        refine tt_vv X rfl mX4_95 (c_step l g ln ext _ (stC_8 hs1) (by have := stC_5 hs1; omega) (by have := stC_4 hs1; omega)) (k_49 _ _) ⟨_, rfl, rfl⟩ rfl rfl (Nat.le_of_ble_eq_true rfl) (by decide) (by decide) (by decide) dX4_readComparison_28 (fun L28 μ28 hp => ?_)
        obtain ⟨rfl, e28⟩ := hp
        have hs28 := stC_step hg hs1 (by omega) e28
        refine tt_aload_n X rfl dX4_readComparison_31 ?_
        refine tt_vv X rfl mX4_130 (c_readSum l g ln ext _ μb tk vl pl K b F0 hg _ hs28 hrm) (k_49 _ _) ⟨_, rfl, rfl⟩ rfl rfl (Nat.le_of_ble_eq_true rfl) (by decide) (by decide) (by decide) dX4_readComparison_32 (fun L32 μ32 hp => ?_)
        obtain ⟨rfl, r2, hr2, hs2, hc2⟩ := hp
        refine tt_aload_n X rfl dX4_readComparison_35 ?_
        refine tt_iload_n X rfl dX4_readComparison_36 ?_
        refine tt_ineg X dX4_readComparison_37 ?_
        refine tt_vv X rfl mX4_121 (c_emit l g ln ext _ _ (stC_7 hs2)) (k_49 _ _) ⟨_, rfl, rfl⟩ rfl rfl (Nat.le_of_ble_eq_true rfl) (by decide) (by decide) (by decide) dX4_readComparison_38 (fun L38 μ38 hp => ?_)
        obtain ⟨rfl, e38⟩ := hp
        have hs38 := stC_emit (x := (cmC (tk q.1), 0)) hs2 (fun q2 hq2 => by
          subst hq2
          have h1 := hc2 (q.1 + 1, q.2) q2 rfl rfl
          dsimp only at h1
          have hk2 := (stC_at hs2).2.1
          exact ⟨enc_cm (by omega), by omega⟩) e38
        refine tt_goto X 49 dX4_readComparison_41 (by decide) ?_
        refine tt_vret X ⟨hr.1, hr.2.1⟩ (by decide) (by decide) dX4_readComparison_49 ?_
        refine ⟨rfl, ?_⟩
        first
          | (subst hq0
             refine ⟨_, ?_, hs38, fun q1 q2 h1 h2 => ?_⟩
             · refine ⟨.inr q, hr1, ?_⟩
               show if tk q.1 = 60 ∨ tk q.1 = 61 ∨ tk q.1 = 62 then _ else _
               rw [if_pos (by omega)]
               refine ⟨r2, hr2, ?_⟩
               cases r2 with
               | inl f => rfl
               | inr u => rfl
             · cases h1
               cases r2 with
               | inl f => cases h2
               | inr u =>
                 cases h2
                 have h3 := hc2 (q.1 + 1, q.2) u rfl rfl
                 dsimp only at h3
                 show (u.2 ++ _).length + q0.1 = q0.2.length + u.1 ∧ q0.1 ≤ u.1
                 rw [List.length_append]
                 show u.2.length + 1 + q0.1 = _ ∧ _
                 omega)
          | (cases r with
             | inl f =>
               have hr1e : r1 = .inl f := hr1
               subst hr1e
               exact ⟨_, rfl, hs46, fun _ _ h => by cases h⟩
             | inr q0 =>
               refine ⟨_, ?_, hs46, fun q1 q2 h1 h2 => ?_⟩
               · refine ⟨r1, hr1, ?_⟩
                 cases r1 with
                 | inl f => rfl
                 | inr q =>
                   have e0 : toR tk (.inr q) = tk q.1 := rfl
                   show if tk q.1 = 60 ∨ tk q.1 = 61 ∨ tk q.1 = 62 then _ else _
                   rw [if_neg (by omega)]
                   rfl
               · cases r1 with
                 | inl f => cases h2
                 | inr q => cases h2)

def suB (tk vl : Nat → Int) (r x : RS) : Prop := match r with
  | .inl f => x = .inl f
  | .inr q => suR tk vl q.1 q.2 x
def wcR (w : Int) : Int := if w = 43 then 2 else if w = 45 then 3 else 0
def suI (tk vl : Nat → Int) (r r1 : RS) (w : Int) (i : Nat) : Prop := match r1 with
  | .inl f => suB tk vl r (.inl f)
  | .inr q => (∀ x, suB tk vl r x ↔ sR tk vl (q.1, q.2, wcR w) x) ∧ 2 * i + 1 ≤ q.1 ∧ ∃ q0, r = .inr q0 ∧ q.2.length + (if w = 0 then 0 else 1) + q0.1 = q0.2.length + q.1 ∧ q0.1 ≤ q.1
section SU
variable {tk vl : Nat → Int} {r : RS} {w : Int} {i : Nat} {q : Nat × CL}
theorem unR_len {j : Nat} {cs : CL} {q2 : Nat × CL} (h : unR tk vl j cs = .inr q2) : q2.1 = j + 1 ∧ q2.2.length = cs.length + 1 := by
  unfold unR at h
  split at h
  · cases h; simp
  · split at h
    · cases h; simp
    · cases h
theorem fcB_len {sg : Int} {q2 : Nat × CL} (h : fcB tk vl sg (.inr q) = .inr q2) : q2.1 = q.1 + 1 ∧ q2.2.length = q.2.length + 1 := by
  replace h : (if sg = 42 then unR tk vl q.1 q.2 else if tk q.1 ≠ 20 then .inl (1, q.1) else if vl q.1 = 0 then .inl (2, q.1) else .inr (q.1 + 1, q.2 ++ [(0, vl q.1)])) = .inr q2 := h
  split at h
  · exact unR_len h
  · split at h
    · cases h
    · split at h
      · cases h
      · cases h; simp
theorem suI_first : suI tk vl r (unB tk vl r) 0 0 := by
  cases r with
  | inl f => exact rfl
  | inr q0 =>
    show suI tk vl (.inr q0) (unR tk vl q0.1 q0.2) 0 0
    cases e : unR tk vl q0.1 q0.2 with
    | inl f =>
      show suR tk vl q0.1 q0.2 (.inl f)
      unfold suR
      rw [e]
    | inr q =>
      have hl := unR_len e
      refine ⟨fun x => ?_, by omega, q0, rfl, ?_⟩
      · show suR tk vl q0.1 q0.2 x ↔ _
        unfold suR
        rw [e]
        exact Iff.rfl
      · rw [if_pos rfl]; omega
theorem suI_md (h : suI tk vl r (.inr q) w i) (ht : tk q.1 = 42 ∨ tk q.1 = 47) : suI tk vl r (emR ((if tk q.1 = 42 then 4 else 5), 0) (fcB tk vl (tk q.1) (.inr (q.1 + 1, q.2)))) w (i + 1) := by
  obtain ⟨h1, h2, q0, h3, h4⟩ := h
  have hst : ∀ o, sstR tk vl (q.1, q.2, wcR w) = o → ∀ r2, fcB tk vl (tk q.1) (.inr (q.1 + 1, q.2)) = r2 → (match r2 with
      | .inl f => o = .inl (.inl f)
      | .inr u => o = .inr (u.1, u.2 ++ [((if tk q.1 = 42 then 4 else 5), 0)], wcR w)) := by
    intro o ho r2 hr2
    subst ho
    subst hr2
    unfold sstR
    dsimp only
    by_cases e : tk q.1 = 42
    · rw [if_pos e]
      have ef : fcB tk vl (tk q.1) (.inr (q.1 + 1, q.2)) = unR tk vl (q.1 + 1) q.2 := if_pos e
      rw [ef, if_pos e]
      cases unR tk vl (q.1 + 1) q.2 with
      | inl f => rfl
      | inr u => rfl
    · have e2 : tk q.1 = 47 := by omega
      rw [if_neg e, if_pos e2]
      have ef : fcB tk vl (tk q.1) (.inr (q.1 + 1, q.2)) = (if tk (q.1 + 1) ≠ 20 then .inl (1, q.1 + 1) else if vl (q.1 + 1) = 0 then .inl (2, q.1 + 1) else .inr (q.1 + 1 + 1, q.2 ++ [(0, vl (q.1 + 1))])) := if_neg e
      rw [ef, if_neg e]
      by_cases w1 : tk (q.1 + 1) ≠ 20
      · rw [if_pos w1, if_pos w1]
      · rw [if_neg w1, if_neg w1]
        by_cases w2 : vl (q.1 + 1) = 0
        · rw [if_pos w2, if_pos w2]
        · rw [if_neg w2, if_neg w2]
  have hst2 := hst _ rfl _ rfl
  cases e : fcB tk vl (tk q.1) (.inr (q.1 + 1, q.2)) with
  | inl f =>
    rw [e] at hst2
    show suB tk vl r (.inl f)
    exact (h1 _).mpr (sR_done hst2)
  | inr u =>
    rw [e] at hst2
    have hl := fcB_len e
    dsimp only at hl hst2
    refine ⟨fun x => (h1 x).trans (sR_step hst2 x), by show 2 * (i + 1) + 1 ≤ u.1; omega, q0, h3, ?_⟩
    show (u.2 ++ _).length + _ + q0.1 = q0.2.length + u.1 ∧ q0.1 ≤ u.1
    rw [List.length_append]
    show u.2.length + 1 + _ + q0.1 = _ ∧ _
    omega
theorem suI_pm (h : suI tk vl r (.inr q) w i) (ht : tk q.1 = 43 ∨ tk q.1 = 45) (hw : w = 0 ∨ w = 43 ∨ w = 45) : suI tk vl r (unB tk vl (.inr (q.1 + 1, q.2 ++ wlR (wcR w)))) (tk q.1) (i + 1) := by
  obtain ⟨h1, h2, q0, h3, h4⟩ := h
  have hlen : (q.2 ++ wlR (wcR w)).length = q.2.length + (if w = 0 then 0 else 1) := by
    rw [List.length_append]
    rcases hw with rfl | rfl | rfl <;> rfl
  have hst : sstR tk vl (q.1, q.2, wcR w) = (match unR tk vl (q.1 + 1) (q.2 ++ wlR (wcR w)) with
      | .inl f => .inl (.inl f)
      | .inr u => .inr (u.1, u.2, if tk q.1 = 43 then 2 else 3)) := by
    unfold sstR
    dsimp only
    rw [if_neg (by omega), if_neg (by omega), if_pos ht]
    cases unR tk vl (q.1 + 1) (q.2 ++ wlR (wcR w)) <;> rfl
  show suI tk vl r (unR tk vl (q.1 + 1) (q.2 ++ wlR (wcR w))) (tk q.1) (i + 1)
  cases e : unR tk vl (q.1 + 1) (q.2 ++ wlR (wcR w)) with
  | inl f =>
    rw [e] at hst
    exact (h1 _).mpr (sR_done hst)
  | inr u =>
    rw [e] at hst
    have hl := unR_len e
    have hwc : wcR (tk q.1) = if tk q.1 = 43 then 2 else 3 := by
      unfold wcR
      rcases ht with e1 | e1 <;> rw [e1] <;> rfl
    refine ⟨fun x => ?_, by omega, q0, h3, ?_⟩
    · rw [hwc]
      exact (h1 x).trans (sR_step hst x)
    · rw [if_neg (show ¬ tk q.1 = 0 by omega)]
      omega
theorem suI_end (h : suI tk vl r (.inr q) w i) (h1 : tk q.1 ≠ 42) (h2 : tk q.1 ≠ 47) (h3 : tk q.1 ≠ 43) (h4 : tk q.1 ≠ 45) (hw : w = 0 ∨ w = 43 ∨ w = 45) : suB tk vl r (.inr (q.1, q.2 ++ wlR (wcR w))) ∧ ∀ q0, r = .inr q0 → (q.2 ++ wlR (wcR w)).length + q0.1 = q0.2.length + q.1 ∧ q0.1 ≤ q.1 := by
  obtain ⟨a1, a2, q0, a3, a4⟩ := h
  have hst : sstR tk vl (q.1, q.2, wcR w) = .inl (.inr (q.1, q.2 ++ wlR (wcR w))) := by
    unfold sstR
    dsimp only
    rw [if_neg h1, if_neg h2, if_neg (by omega)]
  refine ⟨(a1 _).mpr (sR_done hst), fun q1 hq => ?_⟩
  have := Sum.inr.inj (a3.symm.trans hq)
  subst this
  rw [List.length_append]
  have : (wlR (wcR w)).length = if w = 0 then 0 else 1 := by rcases hw with rfl | rfl | rfl <;> rfl
  omega
end SU
set_option maxRecDepth 100000 in
set_option maxHeartbeats 1000000 in
theorem c_readSum (l : Launch) (g : ot_G) (ln : Nat) (ext : ot_L) (μ : ot_M) (μb : ot_M) (tk vl pl : Nat → Int) (K b : Nat) (F0 : Int → Int) (hg : gTk μb K tk vl pl) (r : RS) (hs : stC μb tk pl K b F0 r μ) (hroom : ∀ q, r = .inr q → b + q.2.length ≤ q.1)  : ot_C l g yX4_readSum cX4_readSum 4 none 2 0 0 [.inr 49] (LL ln ext) μ (ot_pv (fun L2 μ2 => L2 = LL ln ext ∧ ∃ r2, suB tk vl r r2 ∧ stC μb tk pl K b F0 r2 μ2 ∧ ∀ q0 q2, r = .inr q0 → r2 = .inr q2 → q2.2.length + q0.1 = q0.2.length + q2.1 ∧ q0.1 ≤ q2.1)) := by
  refine ot_enter (by decide) (Nat.le_of_ble_eq_true rfl) ?_
  intro p e s m args below meth c X hr
  have hK := hg.1
  have h41 := hg.2.1
  have h4 := stC_4 hs
  have h5 := stC_5 hs
  have h7 := stC_7 hs
  have h8 := stC_8 hs
  have htr := toR_rng (r := r) hg
  have hroom1 : ∀ q, r = .inr q → b + q.2.length < 400 ∨ tk q.1 = 21 := fun q hq => by
    subst hq
    have h1 := hroom q rfl
    have h2 := (stC_at hs).2.1
    by_cases w : q.1 = K
    · right; rw [w]; exact hg.2.2.2.1
    · left; omega
  refine tt_iconst X dX4_readSum_0 ?_
  refine tt_istore_n X dX4_readSum_1 (by decide) ?_
  refine tt_aload_n X rfl dX4_readSum_2 ?_
  refine tt_iconst X dX4_readSum_3 ?_
  refine tt_vv X rfl mX4_127 (c_readOperand l g ln ext _ 0 (by decide) (by decide) μb tk vl pl K b F0 hg _ hs hroom1) (k_49 _ _) ⟨_, rfl, rfl⟩ rfl rfl (Nat.le_of_ble_eq_true rfl) (by decide) (by decide) (by decide) dX4_readSum_4 (fun L4 μ4 hp => ?_)
  obtain ⟨rfl, hs4⟩ := hp
  refine tt_iconst X dX4_readSum_7 ?_
  refine tt_istore_n X dX4_readSum_8 (by decide) ?_
  refine tt_loc [(0, _), (1, _), (2, _)] ⟨rfl, rfl, rfl, trivial⟩ ?_
  refine tt_loop (α := Nat × ot_M × RS × Int) (fun ((i, σ, r1, w)) => 400 - i) (fun ((i, σ, r1, w)) => stC μb tk pl K b F0 r1 σ ∧ (w = 0 ∨ w = 43 ∨ w = 45) ∧ i ≤ 300 ∧ suI tk vl r r1 w i) (fun ((i, σ, r1, w)) => σ) (fun ((i, σ, r1, w)) => [(0, .inr 49), (1, .inl w), (2, .inl (i : Int))]) (0, μ4, unB tk vl r, 0) ⟨hs4, Or.inl rfl, by show 0 ≤ 300; decide, suI_first⟩ ?_
  intro a hI ih
  obtain ⟨i, σ, r1, w⟩ := a
  try dsimp only at hI ih ⊢
  replace hI : stC μb tk pl K b F0 r1 σ ∧ (w = 0 ∨ w = 43 ∨ w = 45) ∧ i ≤ 300 ∧ suI tk vl r r1 w i := hI
  have hi3 := hI.2.2.1
  have hw3 := hI.2.1
  have htr1 := toR_rng (r := r1) hg
  refine tt_iload_n X rfl dX4_readSum_9 ?_
  refine tt_sipush X (by decide) dX4_readSum_10 ?_
  refine tt_icmp_gt X 90 (by first | omega | (simp (disch := decide) only [ot_rd, ot_rs, ot_rf, ot_ucd, ot_ucs]; omega)) dX4_readSum_13 (by decide) (fun b13 => ?_) (fun b13 => ?_)
  · exact absurd b13 (by omega)
  · refine tt_aload_n X rfl dX4_readSum_16 ?_
    refine tt_geti X fX4_54 (k_49 _ _) (by decide) (Or.inl rfl) dX4_readSum_17 ?_
    try simp (disch := decide) only [ot_rd, ot_rs, ot_rf, ot_ucd, ot_ucs]
    refine tt_top (stC_tok hI.1) ?_
    refine tt_istore_n X dX4_readSum_20 (by decide) ?_
    refine tt_iload_n X rfl dX4_readSum_21 ?_
    refine tt_bipush X (by decide) dX4_readSum_22 ?_
    refine tt_icmp_eq X 33 (by first | omega | (simp (disch := decide) only [ot_rd, ot_rs, ot_rf, ot_ucd, ot_ucs]; omega)) dX4_readSum_24 (by decide) (fun b24 => ?_) (fun b24 => ?_)
    · obtain ⟨q, rfl⟩ := toR_in (r := r1) (tk := tk) (by omega)
      have e0 : toR tk (.inr q) = tk q.1 := rfl
      have hat := stC_at hI.1
      have hcI := hI.2.2.2
      obtain ⟨_, hc2, q0, hc3, hc4⟩ := hcI
      have hc5 := hroom q0 hc3
      have hqK : q.1 < K := by
        apply Classical.byContradiction
        intro w3
        have hq : q.1 = K := by omega
        have := hg.2.2.2.1
        rw [← hq] at this
        omega
      have hlw : q.2.length + (if w = 0 then 0 else 1) + b ≤ q.1 := by omega
      refine tt_aload_n X rfl dX4_readSum_33 ?_
      refine tt_vv X rfl mX4_95 (c_step l g ln ext _ (stC_8 hI.1) (by have := stC_5 hI.1; omega) (by have := stC_4 hI.1; omega)) (k_49 _ _) ⟨_, rfl, rfl⟩ rfl rfl (Nat.le_of_ble_eq_true rfl) (by decide) (by decide) (by decide) dX4_readSum_34 (fun L34 μ34 hp => ?_)
      obtain ⟨rfl, e34⟩ := hp
      have hs34 := stC_step hg hI.1 (by omega) e34
      refine tt_aload_n X rfl dX4_readSum_37 ?_
      refine tt_iload_n X rfl dX4_readSum_38 ?_
      refine tt_vv X rfl mX4_127 (c_readFactor l g ln ext _ (toR tk (.inr q)) (by omega) μb tk vl pl K b F0 hg _ hs34 (fun q2 hq2 => by cases hq2; show b + q.2.length < 400; omega)) (k_49 _ _) ⟨_, rfl, rfl⟩ rfl rfl (Nat.le_of_ble_eq_true rfl) (by decide) (by decide) (by decide) dX4_readSum_39 (fun L39 μ39 hp => ?_)
      obtain ⟨rfl, hs39⟩ := hp
      refine tt_aload_n X rfl dX4_readSum_42 ?_
      refine tt_iload_n X rfl dX4_readSum_43 ?_
      refine tt_ineg X dX4_readSum_44 ?_
      refine tt_vv X rfl mX4_121 (c_emit l g ln ext _ _ (stC_7 hs39)) (k_49 _ _) ⟨_, rfl, rfl⟩ rfl rfl (Nat.le_of_ble_eq_true rfl) (by decide) (by decide) (by decide) dX4_readSum_45 (fun L45 μ45 hp => ?_)
      obtain ⟨rfl, e45⟩ := hp
      have hs45 := stC_emit (x := ((if tk q.1 = 42 then 4 else 5), 0)) hs39 (fun q2 hq2 => by
        have hl := fcB_len (q := (q.1 + 1, q.2)) hq2
        dsimp only at hl
        have h38 := hs39
        replace hq2 : fcB tk vl (toR tk (.inr q)) (stR (.inr q)) = .inr q2 := hq2
        rw [hq2] at h38
        have hk2 := (stC_at h38).2.1
        refine ⟨?_, by omega⟩
        show -(tk q.1) = enc (if tk q.1 = 42 then 4 else 5) 0
        by_cases w2 : tk q.1 = 42
        · rw [if_pos w2, w2]; rfl
        · rw [if_neg w2, show tk q.1 = 47 by omega]; rfl) e45
      refine tt_goto X 84 dX4_readSum_48 (by decide) ?_
      refine tt_iinc X dX4_readSum_84 rfl (by decide) ?_
      refine tt_goto X 9 dX4_readSum_87 (by decide) ?_
      refine tt_loc [(0, _), (1, _), (2, _)] ⟨rfl, rfl, rfl, trivial⟩ ?_
      first
        | exact ih (i + 1, _, _, w) ⟨hs45, hI.2.1, by show i + 1 ≤ 300; omega, suI_md hI.2.2.2 (by omega)⟩ (by show 400 - (i + 1) < 400 - i; omega)
        | exact ih (i + 1, _, _, tk q.1) ⟨hs81, by show tk q.1 = 0 ∨ tk q.1 = 43 ∨ tk q.1 = 45; omega, by show i + 1 ≤ 300; omega, suI_pm hI.2.2.2 (by omega) hI.2.1⟩ (by show 400 - (i + 1) < 400 - i; omega)
    · refine tt_iload_n X rfl dX4_readSum_27 ?_
      refine tt_bipush X (by decide) dX4_readSum_28 ?_
      refine tt_icmp_ne X 51 (by first | omega | (simp (disch := decide) only [ot_rd, ot_rs, ot_rf, ot_ucd, ot_ucs]; omega)) dX4_readSum_30 (by decide) (fun b30 => ?_) (fun b30 => ?_)
      · refine tt_iload_n X rfl dX4_readSum_51 ?_
        refine tt_bipush X (by decide) dX4_readSum_52 ?_
        refine tt_icmp_eq X 63 (by first | omega | (simp (disch := decide) only [ot_rd, ot_rs, ot_rf, ot_ucd, ot_ucs]; omega)) dX4_readSum_54 (by decide) (fun b54 => ?_) (fun b54 => ?_)
        · obtain ⟨q, rfl⟩ := toR_in (r := r1) (tk := tk) (by omega)
          have e0 : toR tk (.inr q) = tk q.1 := rfl
          have hat := stC_at hI.1
          have hcI := hI.2.2.2
          obtain ⟨_, hc2, q0, hc3, hc4⟩ := hcI
          have hc5 := hroom q0 hc3
          have hqK : q.1 < K := by
            apply Classical.byContradiction
            intro w3
            have hq : q.1 = K := by omega
            have := hg.2.2.2.1
            rw [← hq] at this
            omega
          have hlw : q.2.length + (if w = 0 then 0 else 1) + b ≤ q.1 := by omega
          refine tt_aload_n X rfl dX4_readSum_63 ?_
          refine tt_vv X rfl mX4_95 (c_step l g ln ext _ (stC_8 hI.1) (by have := stC_5 hI.1; omega) (by have := stC_4 hI.1; omega)) (k_49 _ _) ⟨_, rfl, rfl⟩ rfl rfl (Nat.le_of_ble_eq_true rfl) (by decide) (by decide) (by decide) dX4_readSum_64 (fun L64 μ64 hp => ?_)
          obtain ⟨rfl, e64⟩ := hp
          have hs64 := stC_step hg hI.1 (by omega) e64
          refine tt_iload_n X rfl dX4_readSum_67 ?_
          refine tt_if_eq X 77 (by omega) dX4_readSum_68 (by decide) (fun b68 => ?_) (fun b68 => ?_)
          · have hs78 : stC μb tk pl K b F0 (.inr (q.1 + 1, q.2 ++ wlR (wcR w))) μ64 := by
              first
                | (have hw0 : w = 0 := by omega
                   rw [hw0]
                   show stC μb tk pl K b F0 (.inr (q.1 + 1, q.2 ++ [])) _
                   rw [List.append_nil]
                   exact hs64)
                | (have hw1 : wlR (wcR w) = [(wcR w, 0)] := by rcases hI.2.1 with w2 | w2 | w2 <;> first | omega | (rw [w2]; rfl)
                   rw [hw1]
                   exact hs74)
            have hr78 : ∀ q2, (Sum.inr (q.1 + 1, q.2 ++ wlR (wcR w)) : RS) = .inr q2 → b + q2.2.length < 400 ∨ tk q2.1 = 21 := fun q2 hq2 => by
              cases hq2
              have hlen : (q.2 ++ wlR (wcR w)).length = q.2.length + (if w = 0 then 0 else 1) := by
                rw [List.length_append]
                rcases hI.2.1 with w2 | w2 | w2 <;> rw [w2] <;> rfl
              show b + (q.2 ++ wlR (wcR w)).length < 400 ∨ _
              left
              omega
            refine tt_iload_n X rfl dX4_readSum_77 ?_
            refine tt_istore_n X dX4_readSum_78 (by decide) ?_
            refine tt_aload_n X rfl dX4_readSum_79 ?_
            refine tt_iload_n X rfl dX4_readSum_80 ?_
            refine tt_vv X rfl mX4_127 (c_readOperand l g ln ext _ (toR tk (.inr q)) (by omega) (by omega) μb tk vl pl K b F0 hg (.inr (q.1 + 1, q.2 ++ wlR (wcR w))) hs78 hr78) (k_49 _ _) ⟨_, rfl, rfl⟩ rfl rfl (Nat.le_of_ble_eq_true rfl) (by decide) (by decide) (by decide) dX4_readSum_81 (fun L81 μ81 hp => ?_)
            obtain ⟨rfl, hs81⟩ := hp
            refine tt_iinc X dX4_readSum_84 rfl (by decide) ?_
            refine tt_goto X 9 dX4_readSum_87 (by decide) ?_
            refine tt_loc [(0, _), (1, _), (2, _)] ⟨rfl, rfl, rfl, trivial⟩ ?_
            first
              | exact ih (i + 1, _, _, w) ⟨hs45, hI.2.1, by show i + 1 ≤ 300; omega, suI_md hI.2.2.2 (by omega)⟩ (by show 400 - (i + 1) < 400 - i; omega)
              | exact ih (i + 1, _, _, tk q.1) ⟨hs81, by show tk q.1 = 0 ∨ tk q.1 = 43 ∨ tk q.1 = 45; omega, by show i + 1 ≤ 300; omega, suI_pm hI.2.2.2 (by omega) hI.2.1⟩ (by show 400 - (i + 1) < 400 - i; omega)
          · refine tt_aload_n X rfl dX4_readSum_71 ?_
            refine tt_iload_n X rfl dX4_readSum_72 ?_
            refine tt_ineg X dX4_readSum_73 ?_
            refine tt_vv X rfl mX4_121 (c_emit l g ln ext _ _ (stC_7 hs64)) (k_49 _ _) ⟨_, rfl, rfl⟩ rfl rfl (Nat.le_of_ble_eq_true rfl) (by decide) (by decide) (by decide) dX4_readSum_74 (fun L74 μ74 hp => ?_)
            obtain ⟨rfl, e74⟩ := hp
            have hs74 := stC_emit (x := (wcR w, 0)) hs64 (fun q2 hq2 => by
              cases hq2
              refine ⟨?_, by show b + q.2.length < 400; omega⟩
              rcases hI.2.1 with w2 | w2 | w2
              · omega
              · rw [w2]; rfl
              · rw [w2]; rfl) e74
            have hs78 : stC μb tk pl K b F0 (.inr (q.1 + 1, q.2 ++ wlR (wcR w))) μ74 := by
              first
                | (have hw0 : w = 0 := by omega
                   rw [hw0]
                   show stC μb tk pl K b F0 (.inr (q.1 + 1, q.2 ++ [])) _
                   rw [List.append_nil]
                   exact hs64)
                | (have hw1 : wlR (wcR w) = [(wcR w, 0)] := by rcases hI.2.1 with w2 | w2 | w2 <;> first | omega | (rw [w2]; rfl)
                   rw [hw1]
                   exact hs74)
            have hr78 : ∀ q2, (Sum.inr (q.1 + 1, q.2 ++ wlR (wcR w)) : RS) = .inr q2 → b + q2.2.length < 400 ∨ tk q2.1 = 21 := fun q2 hq2 => by
              cases hq2
              have hlen : (q.2 ++ wlR (wcR w)).length = q.2.length + (if w = 0 then 0 else 1) := by
                rw [List.length_append]
                rcases hI.2.1 with w2 | w2 | w2 <;> rw [w2] <;> rfl
              show b + (q.2 ++ wlR (wcR w)).length < 400 ∨ _
              left
              omega
            refine tt_iload_n X rfl dX4_readSum_77 ?_
            refine tt_istore_n X dX4_readSum_78 (by decide) ?_
            refine tt_aload_n X rfl dX4_readSum_79 ?_
            refine tt_iload_n X rfl dX4_readSum_80 ?_
            refine tt_vv X rfl mX4_127 (c_readOperand l g ln ext _ (toR tk (.inr q)) (by omega) (by omega) μb tk vl pl K b F0 hg (.inr (q.1 + 1, q.2 ++ wlR (wcR w))) hs78 hr78) (k_49 _ _) ⟨_, rfl, rfl⟩ rfl rfl (Nat.le_of_ble_eq_true rfl) (by decide) (by decide) (by decide) dX4_readSum_81 (fun L81 μ81 hp => ?_)
            obtain ⟨rfl, hs81⟩ := hp
            refine tt_iinc X dX4_readSum_84 rfl (by decide) ?_
            refine tt_goto X 9 dX4_readSum_87 (by decide) ?_
            refine tt_loc [(0, _), (1, _), (2, _)] ⟨rfl, rfl, rfl, trivial⟩ ?_
            first
              | exact ih (i + 1, _, _, w) ⟨hs45, hI.2.1, by show i + 1 ≤ 300; omega, suI_md hI.2.2.2 (by omega)⟩ (by show 400 - (i + 1) < 400 - i; omega)
              | exact ih (i + 1, _, _, tk q.1) ⟨hs81, by show tk q.1 = 0 ∨ tk q.1 = 43 ∨ tk q.1 = 45; omega, by show i + 1 ≤ 300; omega, suI_pm hI.2.2.2 (by omega) hI.2.1⟩ (by show 400 - (i + 1) < 400 - i; omega)
        · refine tt_iload_n X rfl dX4_readSum_57 ?_
          refine tt_bipush X (by decide) dX4_readSum_58 ?_
          refine tt_icmp_ne X 90 (by first | omega | (simp (disch := decide) only [ot_rd, ot_rs, ot_rf, ot_ucd, ot_ucs]; omega)) dX4_readSum_60 (by decide) (fun b60 => ?_) (fun b60 => ?_)
          · refine tt_iload_n X rfl dX4_readSum_90 ?_
            refine tt_if_eq X 100 (by omega) dX4_readSum_91 (by decide) (fun b91 => ?_) (fun b91 => ?_)
            · refine tt_vret X ⟨hr.1, hr.2.1⟩ (by decide) (by decide) dX4_readSum_100 ?_
              refine ⟨rfl, ?_⟩
              cases r1 with
              | inl f =>
                refine ⟨.inl f, hI.2.2.2, ?_, fun q0 q2 _ h => by cases h⟩
                first
                  | exact hs97
                  | exact hI.1
              | inr q =>
                have e0 : toR tk (.inr q) = tk q.1 := rfl
                have hen := suI_end hI.2.2.2 (by omega) (by omega) (by omega) (by omega) hI.2.1
                refine ⟨_, hen.1, ?_, fun q0 q2 h1 h2 => by cases h2; exact hen.2 q0 h1⟩
                first
                  | (have hw0 : w = 0 := by omega
                     rw [hw0]
                     show stC μb tk pl K b F0 (.inr (q.1, q.2 ++ [])) _
                     rw [List.append_nil]
                     exact hI.1)
                  | (have hw1 : wlR (wcR w) = [(wcR w, 0)] := by rcases hI.2.1 with w2 | w2 | w2 <;> first | omega | (rw [w2]; rfl)
                     rw [hw1]
                     exact hs97)
            · refine tt_aload_n X rfl dX4_readSum_94 ?_
              refine tt_iload_n X rfl dX4_readSum_95 ?_
              refine tt_ineg X dX4_readSum_96 ?_
              refine tt_vv X rfl mX4_121 (c_emit l g ln ext _ _ (stC_7 hI.1)) (k_49 _ _) ⟨_, rfl, rfl⟩ rfl rfl (Nat.le_of_ble_eq_true rfl) (by decide) (by decide) (by decide) dX4_readSum_97 (fun L97 μ97 hp => ?_)
              obtain ⟨rfl, e97⟩ := hp
              have hs97 := stC_emit (x := (wcR w, 0)) hI.1 (fun q2 hq2 => by
                subst hq2
                obtain ⟨_, hc2, q0, hc3, hc4⟩ := hI.2.2.2
                have hc5 := hroom q0 hc3
                have hk2 := (stC_at hI.1).2.1
                rw [if_neg (show ¬ w = 0 by omega)] at hc4
                refine ⟨?_, by omega⟩
                rcases hI.2.1 with w2 | w2 | w2
                · omega
                · rw [w2]; rfl
                · rw [w2]; rfl) e97
              refine tt_vret X ⟨hr.1, hr.2.1⟩ (by decide) (by decide) dX4_readSum_100 ?_
              refine ⟨rfl, ?_⟩
              cases r1 with
              | inl f =>
                refine ⟨.inl f, hI.2.2.2, ?_, fun q0 q2 _ h => by cases h⟩
                first
                  | exact hs97
                  | exact hI.1
              | inr q =>
                have e0 : toR tk (.inr q) = tk q.1 := rfl
                have hen := suI_end hI.2.2.2 (by omega) (by omega) (by omega) (by omega) hI.2.1
                refine ⟨_, hen.1, ?_, fun q0 q2 h1 h2 => by cases h2; exact hen.2 q0 h1⟩
                first
                  | (have hw0 : w = 0 := by omega
                     rw [hw0]
                     show stC μb tk pl K b F0 (.inr (q.1, q.2 ++ [])) _
                     rw [List.append_nil]
                     exact hI.1)
                  | (have hw1 : wlR (wcR w) = [(wcR w, 0)] := by rcases hI.2.1 with w2 | w2 | w2 <;> first | omega | (rw [w2]; rfl)
                     rw [hw1]
                     exact hs97)
          · obtain ⟨q, rfl⟩ := toR_in (r := r1) (tk := tk) (by omega)
            have e0 : toR tk (.inr q) = tk q.1 := rfl
            have hat := stC_at hI.1
            have hcI := hI.2.2.2
            obtain ⟨_, hc2, q0, hc3, hc4⟩ := hcI
            have hc5 := hroom q0 hc3
            have hqK : q.1 < K := by
              apply Classical.byContradiction
              intro w3
              have hq : q.1 = K := by omega
              have := hg.2.2.2.1
              rw [← hq] at this
              omega
            have hlw : q.2.length + (if w = 0 then 0 else 1) + b ≤ q.1 := by omega
            refine tt_aload_n X rfl dX4_readSum_63 ?_
            refine tt_vv X rfl mX4_95 (c_step l g ln ext _ (stC_8 hI.1) (by have := stC_5 hI.1; omega) (by have := stC_4 hI.1; omega)) (k_49 _ _) ⟨_, rfl, rfl⟩ rfl rfl (Nat.le_of_ble_eq_true rfl) (by decide) (by decide) (by decide) dX4_readSum_64 (fun L64 μ64 hp => ?_)
            obtain ⟨rfl, e64⟩ := hp
            have hs64 := stC_step hg hI.1 (by omega) e64
            refine tt_iload_n X rfl dX4_readSum_67 ?_
            refine tt_if_eq X 77 (by omega) dX4_readSum_68 (by decide) (fun b68 => ?_) (fun b68 => ?_)
            · have hs78 : stC μb tk pl K b F0 (.inr (q.1 + 1, q.2 ++ wlR (wcR w))) μ64 := by
                first
                  | (have hw0 : w = 0 := by omega
                     rw [hw0]
                     show stC μb tk pl K b F0 (.inr (q.1 + 1, q.2 ++ [])) _
                     rw [List.append_nil]
                     exact hs64)
                  | (have hw1 : wlR (wcR w) = [(wcR w, 0)] := by rcases hI.2.1 with w2 | w2 | w2 <;> first | omega | (rw [w2]; rfl)
                     rw [hw1]
                     exact hs74)
              have hr78 : ∀ q2, (Sum.inr (q.1 + 1, q.2 ++ wlR (wcR w)) : RS) = .inr q2 → b + q2.2.length < 400 ∨ tk q2.1 = 21 := fun q2 hq2 => by
                cases hq2
                have hlen : (q.2 ++ wlR (wcR w)).length = q.2.length + (if w = 0 then 0 else 1) := by
                  rw [List.length_append]
                  rcases hI.2.1 with w2 | w2 | w2 <;> rw [w2] <;> rfl
                show b + (q.2 ++ wlR (wcR w)).length < 400 ∨ _
                left
                omega
              refine tt_iload_n X rfl dX4_readSum_77 ?_
              refine tt_istore_n X dX4_readSum_78 (by decide) ?_
              refine tt_aload_n X rfl dX4_readSum_79 ?_
              refine tt_iload_n X rfl dX4_readSum_80 ?_
              refine tt_vv X rfl mX4_127 (c_readOperand l g ln ext _ (toR tk (.inr q)) (by omega) (by omega) μb tk vl pl K b F0 hg (.inr (q.1 + 1, q.2 ++ wlR (wcR w))) hs78 hr78) (k_49 _ _) ⟨_, rfl, rfl⟩ rfl rfl (Nat.le_of_ble_eq_true rfl) (by decide) (by decide) (by decide) dX4_readSum_81 (fun L81 μ81 hp => ?_)
              obtain ⟨rfl, hs81⟩ := hp
              refine tt_iinc X dX4_readSum_84 rfl (by decide) ?_
              refine tt_goto X 9 dX4_readSum_87 (by decide) ?_
              refine tt_loc [(0, _), (1, _), (2, _)] ⟨rfl, rfl, rfl, trivial⟩ ?_
              first
                | exact ih (i + 1, _, _, w) ⟨hs45, hI.2.1, by show i + 1 ≤ 300; omega, suI_md hI.2.2.2 (by omega)⟩ (by show 400 - (i + 1) < 400 - i; omega)
                | exact ih (i + 1, _, _, tk q.1) ⟨hs81, by show tk q.1 = 0 ∨ tk q.1 = 43 ∨ tk q.1 = 45; omega, by show i + 1 ≤ 300; omega, suI_pm hI.2.2.2 (by omega) hI.2.1⟩ (by show 400 - (i + 1) < 400 - i; omega)
            · refine tt_aload_n X rfl dX4_readSum_71 ?_
              refine tt_iload_n X rfl dX4_readSum_72 ?_
              refine tt_ineg X dX4_readSum_73 ?_
              refine tt_vv X rfl mX4_121 (c_emit l g ln ext _ _ (stC_7 hs64)) (k_49 _ _) ⟨_, rfl, rfl⟩ rfl rfl (Nat.le_of_ble_eq_true rfl) (by decide) (by decide) (by decide) dX4_readSum_74 (fun L74 μ74 hp => ?_)
              obtain ⟨rfl, e74⟩ := hp
              have hs74 := stC_emit (x := (wcR w, 0)) hs64 (fun q2 hq2 => by
                cases hq2
                refine ⟨?_, by show b + q.2.length < 400; omega⟩
                rcases hI.2.1 with w2 | w2 | w2
                · omega
                · rw [w2]; rfl
                · rw [w2]; rfl) e74
              have hs78 : stC μb tk pl K b F0 (.inr (q.1 + 1, q.2 ++ wlR (wcR w))) μ74 := by
                first
                  | (have hw0 : w = 0 := by omega
                     rw [hw0]
                     show stC μb tk pl K b F0 (.inr (q.1 + 1, q.2 ++ [])) _
                     rw [List.append_nil]
                     exact hs64)
                  | (have hw1 : wlR (wcR w) = [(wcR w, 0)] := by rcases hI.2.1 with w2 | w2 | w2 <;> first | omega | (rw [w2]; rfl)
                     rw [hw1]
                     exact hs74)
              have hr78 : ∀ q2, (Sum.inr (q.1 + 1, q.2 ++ wlR (wcR w)) : RS) = .inr q2 → b + q2.2.length < 400 ∨ tk q2.1 = 21 := fun q2 hq2 => by
                cases hq2
                have hlen : (q.2 ++ wlR (wcR w)).length = q.2.length + (if w = 0 then 0 else 1) := by
                  rw [List.length_append]
                  rcases hI.2.1 with w2 | w2 | w2 <;> rw [w2] <;> rfl
                show b + (q.2 ++ wlR (wcR w)).length < 400 ∨ _
                left
                omega
              refine tt_iload_n X rfl dX4_readSum_77 ?_
              refine tt_istore_n X dX4_readSum_78 (by decide) ?_
              refine tt_aload_n X rfl dX4_readSum_79 ?_
              refine tt_iload_n X rfl dX4_readSum_80 ?_
              refine tt_vv X rfl mX4_127 (c_readOperand l g ln ext _ (toR tk (.inr q)) (by omega) (by omega) μb tk vl pl K b F0 hg (.inr (q.1 + 1, q.2 ++ wlR (wcR w))) hs78 hr78) (k_49 _ _) ⟨_, rfl, rfl⟩ rfl rfl (Nat.le_of_ble_eq_true rfl) (by decide) (by decide) (by decide) dX4_readSum_81 (fun L81 μ81 hp => ?_)
              obtain ⟨rfl, hs81⟩ := hp
              refine tt_iinc X dX4_readSum_84 rfl (by decide) ?_
              refine tt_goto X 9 dX4_readSum_87 (by decide) ?_
              refine tt_loc [(0, _), (1, _), (2, _)] ⟨rfl, rfl, rfl, trivial⟩ ?_
              first
                | exact ih (i + 1, _, _, w) ⟨hs45, hI.2.1, by show i + 1 ≤ 300; omega, suI_md hI.2.2.2 (by omega)⟩ (by show 400 - (i + 1) < 400 - i; omega)
                | exact ih (i + 1, _, _, tk q.1) ⟨hs81, by show tk q.1 = 0 ∨ tk q.1 = 43 ∨ tk q.1 = 45; omega, by show i + 1 ≤ 300; omega, suI_pm hI.2.2.2 (by omega) hI.2.1⟩ (by show 400 - (i + 1) < 400 - i; omega)
      · obtain ⟨q, rfl⟩ := toR_in (r := r1) (tk := tk) (by omega)
        have e0 : toR tk (.inr q) = tk q.1 := rfl
        have hat := stC_at hI.1
        have hcI := hI.2.2.2
        obtain ⟨_, hc2, q0, hc3, hc4⟩ := hcI
        have hc5 := hroom q0 hc3
        have hqK : q.1 < K := by
          apply Classical.byContradiction
          intro w3
          have hq : q.1 = K := by omega
          have := hg.2.2.2.1
          rw [← hq] at this
          omega
        have hlw : q.2.length + (if w = 0 then 0 else 1) + b ≤ q.1 := by omega
        refine tt_aload_n X rfl dX4_readSum_33 ?_
        refine tt_vv X rfl mX4_95 (c_step l g ln ext _ (stC_8 hI.1) (by have := stC_5 hI.1; omega) (by have := stC_4 hI.1; omega)) (k_49 _ _) ⟨_, rfl, rfl⟩ rfl rfl (Nat.le_of_ble_eq_true rfl) (by decide) (by decide) (by decide) dX4_readSum_34 (fun L34 μ34 hp => ?_)
        obtain ⟨rfl, e34⟩ := hp
        have hs34 := stC_step hg hI.1 (by omega) e34
        refine tt_aload_n X rfl dX4_readSum_37 ?_
        refine tt_iload_n X rfl dX4_readSum_38 ?_
        refine tt_vv X rfl mX4_127 (c_readFactor l g ln ext _ (toR tk (.inr q)) (by omega) μb tk vl pl K b F0 hg _ hs34 (fun q2 hq2 => by cases hq2; show b + q.2.length < 400; omega)) (k_49 _ _) ⟨_, rfl, rfl⟩ rfl rfl (Nat.le_of_ble_eq_true rfl) (by decide) (by decide) (by decide) dX4_readSum_39 (fun L39 μ39 hp => ?_)
        obtain ⟨rfl, hs39⟩ := hp
        refine tt_aload_n X rfl dX4_readSum_42 ?_
        refine tt_iload_n X rfl dX4_readSum_43 ?_
        refine tt_ineg X dX4_readSum_44 ?_
        refine tt_vv X rfl mX4_121 (c_emit l g ln ext _ _ (stC_7 hs39)) (k_49 _ _) ⟨_, rfl, rfl⟩ rfl rfl (Nat.le_of_ble_eq_true rfl) (by decide) (by decide) (by decide) dX4_readSum_45 (fun L45 μ45 hp => ?_)
        obtain ⟨rfl, e45⟩ := hp
        have hs45 := stC_emit (x := ((if tk q.1 = 42 then 4 else 5), 0)) hs39 (fun q2 hq2 => by
          have hl := fcB_len (q := (q.1 + 1, q.2)) hq2
          dsimp only at hl
          have h38 := hs39
          replace hq2 : fcB tk vl (toR tk (.inr q)) (stR (.inr q)) = .inr q2 := hq2
          rw [hq2] at h38
          have hk2 := (stC_at h38).2.1
          refine ⟨?_, by omega⟩
          show -(tk q.1) = enc (if tk q.1 = 42 then 4 else 5) 0
          by_cases w2 : tk q.1 = 42
          · rw [if_pos w2, w2]; rfl
          · rw [if_neg w2, show tk q.1 = 47 by omega]; rfl) e45
        refine tt_goto X 84 dX4_readSum_48 (by decide) ?_
        refine tt_iinc X dX4_readSum_84 rfl (by decide) ?_
        refine tt_goto X 9 dX4_readSum_87 (by decide) ?_
        refine tt_loc [(0, _), (1, _), (2, _)] ⟨rfl, rfl, rfl, trivial⟩ ?_
        first
          | exact ih (i + 1, _, _, w) ⟨hs45, hI.2.1, by show i + 1 ≤ 300; omega, suI_md hI.2.2.2 (by omega)⟩ (by show 400 - (i + 1) < 400 - i; omega)
          | exact ih (i + 1, _, _, tk q.1) ⟨hs81, by show tk q.1 = 0 ∨ tk q.1 = 43 ∨ tk q.1 = 45; omega, by show i + 1 ≤ 300; omega, suI_pm hI.2.2.2 (by omega) hI.2.1⟩ (by show 400 - (i + 1) < 400 - i; omega)

theorem psN_idx {T : Nat → Int} {n : Nat} {j : Nat} (h : psN T n j < n) : j ≤ psN T n j := by
  refine psN_ge j (fun i hi => ?_)
  apply Classical.byContradiction
  intro w
  have hi2 : psN T n i = n := Nat.le_antisymm (psN_le i) (by omega)
  have key : ∀ d, psN T n (i + d) = n := by
    intro d
    induction d with
    | zero => exact hi2
    | succ d ih => show psN T n (i + d + 1) = n; rw [psN_s, if_neg (by omega)]
  have := key (j - i)
  rw [show i + (j - i) = j by omega] at this
  omega
theorem tk_end {T : Nat → Int} {n j : Nat} (h : ¬ psN T n j < n) : tkN T n (psN T n j) = 21 := by
  unfold tkN
  rw [if_pos (by omega)]
theorem tk_lt_n {T : Nat → Int} {n j : Nat} (h : tkN T n (psN T n j) ≠ 21) : psN T n j < n := Classical.byContradiction fun w => h (tk_end w)
def prR (tk vl : Nat → Int) (j : Nat) (cs : CL) (o : RS) : Prop := match unR tk vl j cs with
  | .inl f => o = .inl f
  | .inr u => match o with
    | .inl f => ∀ w, sR tk vl (u.1, u.2, w) (.inl f)
    | .inr q => (∀ w x, sR tk vl (u.1, u.2, w) x ↔ sR tk vl (q.1, q.2, w) x) ∧ tk q.1 ≠ 42 ∧ tk q.1 ≠ 47 ∧ q.2.length + j = cs.length + q.1 ∧ j < q.1 ∧ tk (q.1 - 1) ≠ 21
theorem unR_tk {tk vl : Nat → Int} {j : Nat} {cs : CL} {u : Nat × CL} (h : unR tk vl j cs = .inr u) : tk (u.1 - 1) ≠ 21 := by
  rw [(unR_len h).1, Nat.add_sub_cancel]
  intro e
  unfold unR at h
  rw [e, if_neg (by decide), if_neg (by decide)] at h
  cases h
/-- one factor more -/
theorem pr_step {tk vl : Nat → Int} {q : Nat × CL} (ht : tk q.1 = 42 ∨ tk q.1 = 47) (w : Int) : (∀ f, fcB tk vl (tk q.1) (.inr (q.1 + 1, q.2)) = .inl f → sR tk vl (q.1, q.2, w) (.inl f)) ∧ ∀ u, fcB tk vl (tk q.1) (.inr (q.1 + 1, q.2)) = .inr u → ∀ x, sR tk vl (q.1, q.2, w) x ↔ sR tk vl (u.1, u.2 ++ [((if tk q.1 = 42 then 4 else 5), 0)], w) x := by
  have hst : ∀ r2, fcB tk vl (tk q.1) (.inr (q.1 + 1, q.2)) = r2 → (match r2 with
      | .inl f => sstR tk vl (q.1, q.2, w) = .inl (.inl f)
      | .inr u => sstR tk vl (q.1, q.2, w) = .inr (u.1, u.2 ++ [((if tk q.1 = 42 then 4 else 5), 0)], w)) := by
    intro r2 hr2
    subst hr2
    unfold sstR
    dsimp only
    by_cases e : tk q.1 = 42
    · rw [if_pos e]
      have ef : fcB tk vl (tk q.1) (.inr (q.1 + 1, q.2)) = unR tk vl (q.1 + 1) q.2 := if_pos e
      rw [ef, if_pos e]
      cases unR tk vl (q.1 + 1) q.2 with
      | inl f => rfl
      | inr u => rfl
    · have e2 : tk q.1 = 47 := by omega
      rw [if_neg e, if_pos e2]
      have ef : fcB tk vl (tk q.1) (.inr (q.1 + 1, q.2)) = (if tk (q.1 + 1) ≠ 20 then .inl (1, q.1 + 1) else if vl (q.1 + 1) = 0 then .inl (2, q.1 + 1) else .inr (q.1 + 1 + 1, q.2 ++ [(0, vl (q.1 + 1))])) := if_neg e
      rw [ef, if_neg e]
      by_cases w1 : tk (q.1 + 1) ≠ 20
      · rw [if_pos w1, if_pos w1]
      · rw [if_neg w1, if_neg w1]
        by_cases w2 : vl (q.1 + 1) = 0
        · rw [if_pos w2, if_pos w2]
        · rw [if_neg w2, if_neg w2]
  constructor
  · intro f hf
    exact sR_done (hst _ hf)
  · intro u hu x
    exact sR_step (hst _ hu) x
set_option maxRecDepth 100000 in
set_option maxHeartbeats 1000000 in
theorem q_readProduct (l : Launch) (g : ot_G) (ln : Nat) (ext : ot_L) (μ : ot_M) (T : Nat → Int) (n : Nat) (μb : ot_M) (b : Nat) (f0 h0 : Int → Int) (hg : qG T n μb) (q : Nat × CL) (hs : qS T n μb b f0 h0 q μ) (hroom : b + q.2.length ≤ q.1)  : ot_C l g yX10_readProduct cX10_readProduct 2 (some .int) 5 0 0 [.inr 60] (LL ln ext) μ (ot_pi (fun r L2 μ2 => L2 = LL ln ext ∧ ∃ o, prR (tkT T n) (vlT T n) q.1 q.2 o ∧ qR T n μb b f0 h0 o r μ2)) := by
  refine ot_enter (by decide) (Nat.le_of_ble_eq_true rfl) ?_
  intro p e s m args below meth c X hr
  obtain ⟨gT, gT2, gn, gt, gw⟩ := id hg
  have h29 := hs.2.2.2.2.2.1
  have h21 := hs.2.2.2.2.1
  have htq := hs.2.2.2.1
  have h20 := tqR_20 htq
  have hpn := psN_le (T := T) (n := n) q.1
  refine tt_aload_n X rfl dX10_readProduct_0 ?_
  refine tt_vi X rfl mX10_183 (q_readUnit l g ln ext _ T n μb b f0 h0 hg q hs (by by_cases w : psN T n q.1 < n; exact Or.inl (by have := psN_idx w; omega); exact Or.inr (tk_end w))) (k_60 _ _) ⟨_, rfl, rfl⟩ rfl rfl (Nat.le_of_ble_eq_true rfl) (by decide) (by decide) (by decide) dX10_readProduct_1 (fun z1 L1 μ1 hp => ?_)
  obtain ⟨rfl, hq1⟩ := hp
  have hz1 : z1 = -1 ∨ z1 = 0 := by
    cases hu : unR (tkT T n) (vlT T n) q.1 q.2 with
    | inl f => rw [hu] at hq1; exact Or.inl hq1.1
    | inr u => rw [hu] at hq1; exact Or.inr hq1.1
  refine tt_iconst X dX10_readProduct_4 ?_
  refine tt_icmp_ne X 10 (by first | omega | (simp (disch := decide) only [ot_rd, ot_rs, ot_rf, ot_ucd, ot_ucs]; omega)) dX10_readProduct_5 (by decide) (fun b5 => ?_) (fun b5 => ?_)
  · obtain ⟨u, hu⟩ : ∃ u, unR (tkT T n) (vlT T n) q.1 q.2 = .inr u := by
      cases hu : unR (tkT T n) (vlT T n) q.1 q.2 with
      | inl f => rw [hu] at hq1; exact absurd hq1.1 (by omega)
      | inr u => exact ⟨u, rfl⟩
    rw [hu] at hq1
    have hs10 := hq1.2
    refine tt_loc [(0, _)] ⟨rfl, trivial⟩ ?_
    refine tt_loop (α := ot_M × (Nat × CL)) (fun ((σ, q1)) => n - psN T n q1.1) (fun ((σ, q1)) => qS T n μb b f0 h0 q1 σ ∧ unR (tkT T n) (vlT T n) q.1 q.2 = .inr u ∧ (∀ w x, sR (tkT T n) (vlT T n) (u.1, u.2, w) x ↔ sR (tkT T n) (vlT T n) (q1.1, q1.2, w) x) ∧ q1.2.length + q.1 = q.2.length + q1.1 ∧ q.1 < q1.1 ∧ tkT T n (q1.1 - 1) ≠ 21) (fun ((σ, q1)) => σ) (fun ((σ, q1)) => [(0, .inr 60)]) (μ1, u) ⟨hs10, hu, fun _ _ => Iff.rfl, by have := unR_len hu; show u.2.length + q.1 = q.2.length + u.1; omega, by have := unR_len hu; show q.1 < u.1; omega, unR_tk hu⟩ ?_
    intro a hI ih
    obtain ⟨σ, q1⟩ := a
    try dsimp only at hI ih ⊢
    replace hI : qS T n μb b f0 h0 q1 σ ∧ unR (tkT T n) (vlT T n) q.1 q.2 = .inr u ∧ (∀ w x, sR (tkT T n) (vlT T n) (u.1, u.2, w) x ↔ sR (tkT T n) (vlT T n) (q1.1, q1.2, w) x) ∧ q1.2.length + q.1 = q.2.length + q1.1 ∧ q.1 < q1.1 ∧ tkT T n (q1.1 - 1) ≠ 21 := hI
    have htq1 := hI.1.2.2.2.1
    have h201 := tqR_20 htq1
    have h211 := hI.1.2.2.2.2.1
    have k42 := tq_sign htq1 42 (by omega)
    have k47 := tq_sign htq1 47 (by omega)
    refine tt_aload_n X rfl dX10_readProduct_10 ?_
    refine tt_bipush X (by decide) dX10_readProduct_11 ?_
    refine tt_vi X rfl mX10_187 (q_isSign l g ln ext _ 42 (by omega) (by have := tqR_20 hI.1.2.2.2.1; omega) (by have := hI.1.2.2.2.2.1; omega)) (k_60 _ _) ⟨_, rfl, rfl⟩ rfl rfl (Nat.le_of_ble_eq_true rfl) (by decide) (by decide) (by decide) dX10_readProduct_13 (fun z13 L13 μ13 hp => ?_)
    obtain ⟨rfl, e13, hz13⟩ := hp
    replace e13 := e13.symm
    subst e13
    try simp (disch := decide) only [ot_rd, ot_rs, ot_rf, ot_ucd, ot_ucs] at hz13
    refine tt_if_ne X 28 (by rw [hz13]; split <;> omega) dX10_readProduct_16 (by decide) (fun b16 => ?_) (fun b16 => ?_)
    · have ht4 : tkT T n q1.1 = 42 ∨ tkT T n q1.1 = 47 := by
        show tkN T n (psN T n q1.1) = 42 ∨ tkN T n (psN T n q1.1) = 47
        first
          | exact Or.inl (k42.mp (Classical.byContradiction fun w => by rw [if_neg w] at hz13; omega))
          | exact Or.inr (k47.mp (Classical.byContradiction fun w => by rw [if_neg w] at hz22; omega))
      have hlt1 : psN T n q1.1 < n := tk_lt_n (by have : tkT T n q1.1 = tkN T n (psN T n q1.1) := rfl; omega)
      have hix := psN_idx hlt1
      refine tt_aload_n X rfl dX10_readProduct_28 ?_
      refine tt_bipush X (by decide) dX10_readProduct_29 ?_
      refine tt_vi X rfl mX10_187 (q_isSign l g ln ext _ 42 (by omega) (by have := tqR_20 hI.1.2.2.2.1; omega) (by have := hI.1.2.2.2.2.1; omega)) (k_60 _ _) ⟨_, rfl, rfl⟩ rfl rfl (Nat.le_of_ble_eq_true rfl) (by decide) (by decide) (by decide) dX10_readProduct_31 (fun z31 L31 μ31 hp => ?_)
      obtain ⟨rfl, e31, hz31⟩ := hp
      replace e31 := e31.symm
      subst e31
      try simp (disch := decide) only [ot_rd, ot_rs, ot_rf, ot_ucd, ot_ucs] at hz31
      have hi42 : z31 ≠ 0 ↔ tkT T n q1.1 = 42 := by
        show z31 ≠ 0 ↔ tkN T n (psN T n q1.1) = 42
        rw [← k42, hz31]
        split
        · rename_i w; exact ⟨fun _ => w, fun _ => by decide⟩
        · rename_i w; exact ⟨fun h => absurd rfl h, fun h => absurd h w⟩
      have hz31r : z31 = 0 ∨ z31 = 1 := by rw [hz31]; split <;> omega
      refine tt_istore_n X dX10_readProduct_34 (by decide) ?_
      refine tt_aload_n X rfl dX10_readProduct_35 ?_
      refine tt_vv X rfl mX10_180 (q_reads l g ln ext _ (spT T n _) hI.1.2.1 T n (by rw [hI.1.1.1 72 (by decide) (by decide) (by decide)]; exact gT) gT2 gn (by rw [hI.1.1.2 17 (by decide) (by decide) (by decide) (by decide) (by decide) (by decide) (by decide)]; exact gt) (spT_le (psN_le _)) (by rw [hI.1.1.1 73 (by decide) (by decide) (by decide)]; exact gw)) (k_60 _ _) ⟨_, rfl, rfl⟩ rfl rfl (Nat.le_of_ble_eq_true rfl) (by decide) (by decide) (by decide) dX10_readProduct_36 (fun L36 μ36 hp => ?_)
      obtain ⟨rfl, sp36, tk36, vl36, e36, hsp36, ht36, hv36⟩ := hp
      have hs36 := qS_reads hI.1 (tk_lt_n (by omega)) e36 hsp36 ht36 hv36
      have htq2 := hs36.2.2.2.1
      have h202 := tqR_20 htq2
      have h212 := hs36.2.2.2.2.1
      have knum := tq_num htq2
      refine tt_iload_n X rfl dX10_readProduct_39 ?_
      refine tt_if_ne X 57 (by first | omega | (simp (disch := decide) only [ot_rd, ot_rs, ot_rf, ot_ucd, ot_ucs]; omega)) dX10_readProduct_40 (by decide) (fun b40 => ?_) (fun b40 => ?_)
      · refine tt_iload_n X rfl dX10_readProduct_57 ?_
        refine tt_if_ne X 74 (by first | omega | (simp (disch := decide) only [ot_rd, ot_rs, ot_rf, ot_ucd, ot_ucs]; omega)) dX10_readProduct_58 (by decide) (fun b58 => ?_) (fun b58 => ?_)
        · refine tt_aload_n X rfl dX10_readProduct_74 ?_
          refine tt_vi X rfl mX10_183 (q_readUnit l g ln ext _ T n μb b f0 h0 hg (q1.1 + 1, q1.2) hs36 (by by_cases w : psN T n (q1.1 + 1) < n; exact Or.inl (by have := psN_idx w; show b + q1.2.length < 400; omega); exact Or.inr (tk_end w))) (k_60 _ _) ⟨_, rfl, rfl⟩ rfl rfl (Nat.le_of_ble_eq_true rfl) (by decide) (by decide) (by decide) dX10_readProduct_75 (fun z75 L75 μ75 hp => ?_)
          obtain ⟨rfl, hq75⟩ := hp
          have hz75 : z75 = -1 ∨ z75 = 0 := by
            cases hu : unR (tkT T n) (vlT T n) (q1.1 + 1) q1.2 with
            | inl f => rw [hu] at hq75; exact Or.inl hq75.1
            | inr u2 => rw [hu] at hq75; exact Or.inr hq75.1
          refine tt_iconst X dX10_readProduct_78 ?_
          refine tt_icmp_ne X 84 (by first | omega | (simp (disch := decide) only [ot_rd, ot_rs, ot_rf, ot_ucd, ot_ucs]; omega)) dX10_readProduct_79 (by decide) (fun b79 => ?_) (fun b79 => ?_)
          · obtain ⟨u2, hu2⟩ : ∃ u2, unR (tkT T n) (vlT T n) (q1.1 + 1) q1.2 = .inr u2 := by
              cases hu2 : unR (tkT T n) (vlT T n) (q1.1 + 1) q1.2 with
              | inl f => rw [hu2] at hq75; exact absurd hq75.1 (by omega)
              | inr u2 => exact ⟨u2, rfl⟩
            rw [hu2] at hq75
            have hs84 := hq75.2
            have hul := unR_len hu2
            have hltu : psN T n (q1.1 + 1) < n := by
              apply Classical.byContradiction
              intro w
              have h21b : tkT T n (q1.1 + 1) = 21 := tk_end w
              unfold unR at hu2
              rw [h21b, if_neg (by decide), if_neg (by decide)] at hu2
              cases hu2
            have hixu := psN_idx hltu
            have hfc : fcB (tkT T n) (vlT T n) (tkT T n q1.1) (.inr (q1.1 + 1, q1.2)) = .inr u2 := by
              show (if tkT T n q1.1 = 42 then unR (tkT T n) (vlT T n) (q1.1 + 1) q1.2 else if tkT T n (q1.1 + 1) ≠ 20 then _ else if vlT T n (q1.1 + 1) = 0 then _ else _) = _
              by_cases w : tkT T n q1.1 = 42
              · rw [if_pos w]; exact hu2
              · have hz0 : z31 = 0 := by have := fun h => w (hi42.mp h); omega
                have h20c : tkT T n (q1.1 + 1) = 20 := knum.mp (by omega)
                have hvc : vlT T n (q1.1 + 1) ≠ 0 := by
                  have e1 : vlT T n (q1.1 + 1) = vlN T n (psN T n (q1.1 + 1)) := if_pos h20c
                  rw [e1]
                  have hv2 : μ36 60 21 = vlN T n (psN T n (q1.1 + 1)) := by
                    have h20d : tkN T n (psN T n (q1.1 + 1)) = 20 := h20c
                    rcases htq2 with c | c | c | c | c <;> (dsimp only at c; omega)
                  omega
                rw [if_neg w, if_neg (by omega), if_neg hvc]
                unfold unR at hu2
                rw [if_pos h20c] at hu2
                exact hu2
            refine tt_aload_n X rfl dX10_readProduct_84 ?_
            refine tt_join1 94 [.inl (if tkT T n q1.1 = 42 then 4 else 5), .inr 60] ?_ (fun J94 => ?_)
            · refine tt_iconst X dX10_readProduct_94 ?_
              refine tt_vv X rfl mX10_176 (q_emits l g ln ext _ _ _ (by rw [hs84.2.2.2.2.2.1]; omega)) (k_60 _ _) ⟨_, rfl, rfl⟩ rfl rfl (Nat.le_of_ble_eq_true rfl) (by decide) (by decide) (by decide) dX10_readProduct_95 (fun L95 μ95 hp => ?_)
              obtain ⟨rfl, e95⟩ := hp
              have hs95 := qS_emit (x := ((if tkT T n q1.1 = 42 then 4 else 5), 0)) hs84 e95
              refine tt_goto X 10 dX10_readProduct_98 (by decide) ?_
              refine tt_loc [(0, _)] ⟨rfl, trivial⟩ ?_
              have hgr := psN_grow hlt1
              have hgr2 : psN T n (q1.1 + 1) ≤ psN T n u2.1 := by
                rw [hul.1]
                exact Nat.le_of_lt (psN_grow hltu)
              refine ih (_, (u2.1, u2.2 ++ [((if tkT T n q1.1 = 42 then 4 else 5), 0)])) ⟨hs95, hI.2.1, fun w x => ?_, ?_, ?_, ?_⟩ ?_
              · exact (hI.2.2.1 w x).trans ((pr_step (by omega) w).2 u2 hfc x)
              · show (u2.2 ++ _).length + q.1 = q.2.length + u2.1
                rw [List.length_append]
                show u2.2.length + 1 + q.1 = _
                omega
              · show q.1 < u2.1
                omega
              · show tkT T n (u2.1 - 1) ≠ 21
                exact unR_tk hu2
              · show n - psN T n u2.1 < n - psN T n q1.1
                omega
            · refine tt_iload_n X rfl dX10_readProduct_85 ?_
              refine tt_if_eq X 93 (by first | omega | (simp (disch := decide) only [ot_rd, ot_rs, ot_rf, ot_ucd, ot_ucs]; omega)) dX10_readProduct_86 (by decide) (fun b86 => ?_) (fun b86 => ?_)
              · refine tt_iconst X dX10_readProduct_93 ?_
                refine tt_top (show _ = (if tkT T n q1.1 = 42 then (4 : Int) else 5) by first | (rw [if_pos (hi42.mp (by omega))]; done) | (rw [if_neg (fun q => by have := hi42.mpr q; omega)]; done)) ?_
                exact J94
              · refine tt_iconst X dX10_readProduct_89 ?_
                refine tt_goto X 94 dX10_readProduct_90 (by decide) ?_
                refine tt_top (show _ = (if tkT T n q1.1 = 42 then (4 : Int) else 5) by first | (rw [if_pos (hi42.mp (by omega))]; done) | (rw [if_neg (fun q => by have := hi42.mpr q; omega)]; done)) ?_
                exact J94
          · refine tt_iconst X dX10_readProduct_82 ?_
            refine tt_iret X ⟨hr.1, hr.2.1⟩ (by decide) (by decide) dX10_readProduct_83 ?_
            cases hu2 : unR (tkT T n) (vlT T n) (q1.1 + 1) q1.2 with
            | inr u2 => rw [hu2] at hq75; exact absurd hq75.1 (by omega)
            | inl f =>
              rw [hu2] at hq75
              refine ⟨rfl, .inl f, ?_, rfl, hq75.2⟩
              unfold prR
              rw [hI.2.1]
              intro w
              refine (hI.2.2.1 w _).mpr ((pr_step ht4 w).1 _ ?_)
              show (if tkT T n q1.1 = 42 then unR (tkT T n) (vlT T n) (q1.1 + 1) q1.2 else if tkT T n (q1.1 + 1) ≠ 20 then _ else _) = _
              by_cases w4 : tkT T n q1.1 = 42
              · rw [if_pos w4]; exact hu2
              · exfalso
                have hz0 : z31 = 0 := by have := fun h => w4 (hi42.mp h); omega
                have h20c : tkT T n (q1.1 + 1) = 20 := knum.mp (by omega)
                unfold unR at hu2
                rw [if_pos h20c] at hu2
                cases hu2
        · refine tt_aload_n X rfl dX10_readProduct_61 ?_
          refine tt_geti X fX10_148 (k_60 _ _) (by decide) (Or.inl rfl) dX10_readProduct_62 ?_
          try simp (disch := decide) only [ot_rd, ot_rs, ot_rf, ot_ucd, ot_ucs]
          refine tt_if_ne X 74 (by first | omega | (simp (disch := decide) only [ot_rd, ot_rs, ot_rf, ot_ucd, ot_ucs]; omega)) dX10_readProduct_65 (by decide) (fun b65 => ?_) (fun b65 => ?_)
          · refine tt_aload_n X rfl dX10_readProduct_74 ?_
            refine tt_vi X rfl mX10_183 (q_readUnit l g ln ext _ T n μb b f0 h0 hg (q1.1 + 1, q1.2) hs36 (by by_cases w : psN T n (q1.1 + 1) < n; exact Or.inl (by have := psN_idx w; show b + q1.2.length < 400; omega); exact Or.inr (tk_end w))) (k_60 _ _) ⟨_, rfl, rfl⟩ rfl rfl (Nat.le_of_ble_eq_true rfl) (by decide) (by decide) (by decide) dX10_readProduct_75 (fun z75 L75 μ75 hp => ?_)
            obtain ⟨rfl, hq75⟩ := hp
            have hz75 : z75 = -1 ∨ z75 = 0 := by
              cases hu : unR (tkT T n) (vlT T n) (q1.1 + 1) q1.2 with
              | inl f => rw [hu] at hq75; exact Or.inl hq75.1
              | inr u2 => rw [hu] at hq75; exact Or.inr hq75.1
            refine tt_iconst X dX10_readProduct_78 ?_
            refine tt_icmp_ne X 84 (by first | omega | (simp (disch := decide) only [ot_rd, ot_rs, ot_rf, ot_ucd, ot_ucs]; omega)) dX10_readProduct_79 (by decide) (fun b79 => ?_) (fun b79 => ?_)
            · obtain ⟨u2, hu2⟩ : ∃ u2, unR (tkT T n) (vlT T n) (q1.1 + 1) q1.2 = .inr u2 := by
                cases hu2 : unR (tkT T n) (vlT T n) (q1.1 + 1) q1.2 with
                | inl f => rw [hu2] at hq75; exact absurd hq75.1 (by omega)
                | inr u2 => exact ⟨u2, rfl⟩
              rw [hu2] at hq75
              have hs84 := hq75.2
              have hul := unR_len hu2
              have hltu : psN T n (q1.1 + 1) < n := by
                apply Classical.byContradiction
                intro w
                have h21b : tkT T n (q1.1 + 1) = 21 := tk_end w
                unfold unR at hu2
                rw [h21b, if_neg (by decide), if_neg (by decide)] at hu2
                cases hu2
              have hixu := psN_idx hltu
              have hfc : fcB (tkT T n) (vlT T n) (tkT T n q1.1) (.inr (q1.1 + 1, q1.2)) = .inr u2 := by
                show (if tkT T n q1.1 = 42 then unR (tkT T n) (vlT T n) (q1.1 + 1) q1.2 else if tkT T n (q1.1 + 1) ≠ 20 then _ else if vlT T n (q1.1 + 1) = 0 then _ else _) = _
                by_cases w : tkT T n q1.1 = 42
                · rw [if_pos w]; exact hu2
                · have hz0 : z31 = 0 := by have := fun h => w (hi42.mp h); omega
                  have h20c : tkT T n (q1.1 + 1) = 20 := knum.mp (by omega)
                  have hvc : vlT T n (q1.1 + 1) ≠ 0 := by
                    have e1 : vlT T n (q1.1 + 1) = vlN T n (psN T n (q1.1 + 1)) := if_pos h20c
                    rw [e1]
                    have hv2 : μ36 60 21 = vlN T n (psN T n (q1.1 + 1)) := by
                      have h20d : tkN T n (psN T n (q1.1 + 1)) = 20 := h20c
                      rcases htq2 with c | c | c | c | c <;> (dsimp only at c; omega)
                    omega
                  rw [if_neg w, if_neg (by omega), if_neg hvc]
                  unfold unR at hu2
                  rw [if_pos h20c] at hu2
                  exact hu2
              refine tt_aload_n X rfl dX10_readProduct_84 ?_
              refine tt_join1 94 [.inl (if tkT T n q1.1 = 42 then 4 else 5), .inr 60] ?_ (fun J94 => ?_)
              · refine tt_iconst X dX10_readProduct_94 ?_
                refine tt_vv X rfl mX10_176 (q_emits l g ln ext _ _ _ (by rw [hs84.2.2.2.2.2.1]; omega)) (k_60 _ _) ⟨_, rfl, rfl⟩ rfl rfl (Nat.le_of_ble_eq_true rfl) (by decide) (by decide) (by decide) dX10_readProduct_95 (fun L95 μ95 hp => ?_)
                obtain ⟨rfl, e95⟩ := hp
                have hs95 := qS_emit (x := ((if tkT T n q1.1 = 42 then 4 else 5), 0)) hs84 e95
                refine tt_goto X 10 dX10_readProduct_98 (by decide) ?_
                refine tt_loc [(0, _)] ⟨rfl, trivial⟩ ?_
                have hgr := psN_grow hlt1
                have hgr2 : psN T n (q1.1 + 1) ≤ psN T n u2.1 := by
                  rw [hul.1]
                  exact Nat.le_of_lt (psN_grow hltu)
                refine ih (_, (u2.1, u2.2 ++ [((if tkT T n q1.1 = 42 then 4 else 5), 0)])) ⟨hs95, hI.2.1, fun w x => ?_, ?_, ?_, ?_⟩ ?_
                · exact (hI.2.2.1 w x).trans ((pr_step (by omega) w).2 u2 hfc x)
                · show (u2.2 ++ _).length + q.1 = q.2.length + u2.1
                  rw [List.length_append]
                  show u2.2.length + 1 + q.1 = _
                  omega
                · show q.1 < u2.1
                  omega
                · show tkT T n (u2.1 - 1) ≠ 21
                  exact unR_tk hu2
                · show n - psN T n u2.1 < n - psN T n q1.1
                  omega
              · refine tt_iload_n X rfl dX10_readProduct_85 ?_
                refine tt_if_eq X 93 (by first | omega | (simp (disch := decide) only [ot_rd, ot_rs, ot_rf, ot_ucd, ot_ucs]; omega)) dX10_readProduct_86 (by decide) (fun b86 => ?_) (fun b86 => ?_)
                · refine tt_iconst X dX10_readProduct_93 ?_
                  refine tt_top (show _ = (if tkT T n q1.1 = 42 then (4 : Int) else 5) by first | (rw [if_pos (hi42.mp (by omega))]; done) | (rw [if_neg (fun q => by have := hi42.mpr q; omega)]; done)) ?_
                  exact J94
                · refine tt_iconst X dX10_readProduct_89 ?_
                  refine tt_goto X 94 dX10_readProduct_90 (by decide) ?_
                  refine tt_top (show _ = (if tkT T n q1.1 = 42 then (4 : Int) else 5) by first | (rw [if_pos (hi42.mp (by omega))]; done) | (rw [if_neg (fun q => by have := hi42.mpr q; omega)]; done)) ?_
                  exact J94
            · refine tt_iconst X dX10_readProduct_82 ?_
              refine tt_iret X ⟨hr.1, hr.2.1⟩ (by decide) (by decide) dX10_readProduct_83 ?_
              cases hu2 : unR (tkT T n) (vlT T n) (q1.1 + 1) q1.2 with
              | inr u2 => rw [hu2] at hq75; exact absurd hq75.1 (by omega)
              | inl f =>
                rw [hu2] at hq75
                refine ⟨rfl, .inl f, ?_, rfl, hq75.2⟩
                unfold prR
                rw [hI.2.1]
                intro w
                refine (hI.2.2.1 w _).mpr ((pr_step ht4 w).1 _ ?_)
                show (if tkT T n q1.1 = 42 then unR (tkT T n) (vlT T n) (q1.1 + 1) q1.2 else if tkT T n (q1.1 + 1) ≠ 20 then _ else _) = _
                by_cases w4 : tkT T n q1.1 = 42
                · rw [if_pos w4]; exact hu2
                · exfalso
                  have hz0 : z31 = 0 := by have := fun h => w4 (hi42.mp h); omega
                  have h20c : tkT T n (q1.1 + 1) = 20 := knum.mp (by omega)
                  unfold unR at hu2
                  rw [if_pos h20c] at hu2
                  cases hu2
          · refine tt_aload_n X rfl dX10_readProduct_68 ?_
            refine tt_iconst X dX10_readProduct_69 ?_
            refine tt_vi X rfl mX10_173 (q_errs l g ln ext _ _) (k_60 _ _) ⟨_, rfl, rfl⟩ rfl rfl (Nat.le_of_ble_eq_true rfl) (by decide) (by decide) (by decide) dX10_readProduct_70 (fun z70 L70 μ70 hp => ?_)
            obtain ⟨rfl, e70, hz70⟩ := hp
            have hs70 := qS_err hs36 e70
            try simp (disch := decide) only [ot_rd, ot_rs, ot_rf, ot_ucd, ot_ucs] at hz70
            refine tt_iret X ⟨hr.1, hr.2.1⟩ (by decide) (by decide) dX10_readProduct_73 ?_
            refine ⟨rfl, .inl (2, q1.1 + 1), ?_, hz70, hs70⟩
            unfold prR
            rw [hI.2.1]
            intro w
            refine (hI.2.2.1 w _).mpr ((pr_step ht4 w).1 _ ?_)
            have w4 : ¬ tkT T n q1.1 = 42 := fun h => by have := hi42.mpr h; omega
            have w20 : tkT T n (q1.1 + 1) = 20 := knum.mp (by omega)
            have wv : vlT T n (q1.1 + 1) = 0 := by
              have e1 : vlT T n (q1.1 + 1) = vlN T n (psN T n (q1.1 + 1)) := if_pos w20
              rw [e1]
              have h20d : tkN T n (psN T n (q1.1 + 1)) = 20 := w20
              rcases htq2 with c | c | c | c | c <;> (dsimp only at c; omega)
            show (if tkT T n q1.1 = 42 then _ else if tkT T n (q1.1 + 1) ≠ 20 then _ else if vlT T n (q1.1 + 1) = 0 then _ else _) = _
            rw [if_neg w4, if_neg (by omega), if_pos wv]
      · refine tt_aload_n X rfl dX10_readProduct_43 ?_
        refine tt_geti X fX10_145 (k_60 _ _) (by decide) (Or.inl rfl) dX10_readProduct_44 ?_
        try simp (disch := decide) only [ot_rd, ot_rs, ot_rf, ot_ucd, ot_ucs]
        refine tt_iconst X dX10_readProduct_47 ?_
        refine tt_icmp_eq X 57 (by first | omega | (simp (disch := decide) only [ot_rd, ot_rs, ot_rf, ot_ucd, ot_ucs]; omega)) dX10_readProduct_48 (by decide) (fun b48 => ?_) (fun b48 => ?_)
        · refine tt_iload_n X rfl dX10_readProduct_57 ?_
          refine tt_if_ne X 74 (by first | omega | (simp (disch := decide) only [ot_rd, ot_rs, ot_rf, ot_ucd, ot_ucs]; omega)) dX10_readProduct_58 (by decide) (fun b58 => ?_) (fun b58 => ?_)
          · refine tt_aload_n X rfl dX10_readProduct_74 ?_
            refine tt_vi X rfl mX10_183 (q_readUnit l g ln ext _ T n μb b f0 h0 hg (q1.1 + 1, q1.2) hs36 (by by_cases w : psN T n (q1.1 + 1) < n; exact Or.inl (by have := psN_idx w; show b + q1.2.length < 400; omega); exact Or.inr (tk_end w))) (k_60 _ _) ⟨_, rfl, rfl⟩ rfl rfl (Nat.le_of_ble_eq_true rfl) (by decide) (by decide) (by decide) dX10_readProduct_75 (fun z75 L75 μ75 hp => ?_)
            obtain ⟨rfl, hq75⟩ := hp
            have hz75 : z75 = -1 ∨ z75 = 0 := by
              cases hu : unR (tkT T n) (vlT T n) (q1.1 + 1) q1.2 with
              | inl f => rw [hu] at hq75; exact Or.inl hq75.1
              | inr u2 => rw [hu] at hq75; exact Or.inr hq75.1
            refine tt_iconst X dX10_readProduct_78 ?_
            refine tt_icmp_ne X 84 (by first | omega | (simp (disch := decide) only [ot_rd, ot_rs, ot_rf, ot_ucd, ot_ucs]; omega)) dX10_readProduct_79 (by decide) (fun b79 => ?_) (fun b79 => ?_)
            · obtain ⟨u2, hu2⟩ : ∃ u2, unR (tkT T n) (vlT T n) (q1.1 + 1) q1.2 = .inr u2 := by
                cases hu2 : unR (tkT T n) (vlT T n) (q1.1 + 1) q1.2 with
                | inl f => rw [hu2] at hq75; exact absurd hq75.1 (by omega)
                | inr u2 => exact ⟨u2, rfl⟩
              rw [hu2] at hq75
              have hs84 := hq75.2
              have hul := unR_len hu2
              have hltu : psN T n (q1.1 + 1) < n := by
                apply Classical.byContradiction
                intro w
                have h21b : tkT T n (q1.1 + 1) = 21 := tk_end w
                unfold unR at hu2
                rw [h21b, if_neg (by decide), if_neg (by decide)] at hu2
                cases hu2
              have hixu := psN_idx hltu
              have hfc : fcB (tkT T n) (vlT T n) (tkT T n q1.1) (.inr (q1.1 + 1, q1.2)) = .inr u2 := by
                show (if tkT T n q1.1 = 42 then unR (tkT T n) (vlT T n) (q1.1 + 1) q1.2 else if tkT T n (q1.1 + 1) ≠ 20 then _ else if vlT T n (q1.1 + 1) = 0 then _ else _) = _
                by_cases w : tkT T n q1.1 = 42
                · rw [if_pos w]; exact hu2
                · have hz0 : z31 = 0 := by have := fun h => w (hi42.mp h); omega
                  have h20c : tkT T n (q1.1 + 1) = 20 := knum.mp (by omega)
                  have hvc : vlT T n (q1.1 + 1) ≠ 0 := by
                    have e1 : vlT T n (q1.1 + 1) = vlN T n (psN T n (q1.1 + 1)) := if_pos h20c
                    rw [e1]
                    have hv2 : μ36 60 21 = vlN T n (psN T n (q1.1 + 1)) := by
                      have h20d : tkN T n (psN T n (q1.1 + 1)) = 20 := h20c
                      rcases htq2 with c | c | c | c | c <;> (dsimp only at c; omega)
                    omega
                  rw [if_neg w, if_neg (by omega), if_neg hvc]
                  unfold unR at hu2
                  rw [if_pos h20c] at hu2
                  exact hu2
              refine tt_aload_n X rfl dX10_readProduct_84 ?_
              refine tt_join1 94 [.inl (if tkT T n q1.1 = 42 then 4 else 5), .inr 60] ?_ (fun J94 => ?_)
              · refine tt_iconst X dX10_readProduct_94 ?_
                refine tt_vv X rfl mX10_176 (q_emits l g ln ext _ _ _ (by rw [hs84.2.2.2.2.2.1]; omega)) (k_60 _ _) ⟨_, rfl, rfl⟩ rfl rfl (Nat.le_of_ble_eq_true rfl) (by decide) (by decide) (by decide) dX10_readProduct_95 (fun L95 μ95 hp => ?_)
                obtain ⟨rfl, e95⟩ := hp
                have hs95 := qS_emit (x := ((if tkT T n q1.1 = 42 then 4 else 5), 0)) hs84 e95
                refine tt_goto X 10 dX10_readProduct_98 (by decide) ?_
                refine tt_loc [(0, _)] ⟨rfl, trivial⟩ ?_
                have hgr := psN_grow hlt1
                have hgr2 : psN T n (q1.1 + 1) ≤ psN T n u2.1 := by
                  rw [hul.1]
                  exact Nat.le_of_lt (psN_grow hltu)
                refine ih (_, (u2.1, u2.2 ++ [((if tkT T n q1.1 = 42 then 4 else 5), 0)])) ⟨hs95, hI.2.1, fun w x => ?_, ?_, ?_, ?_⟩ ?_
                · exact (hI.2.2.1 w x).trans ((pr_step (by omega) w).2 u2 hfc x)
                · show (u2.2 ++ _).length + q.1 = q.2.length + u2.1
                  rw [List.length_append]
                  show u2.2.length + 1 + q.1 = _
                  omega
                · show q.1 < u2.1
                  omega
                · show tkT T n (u2.1 - 1) ≠ 21
                  exact unR_tk hu2
                · show n - psN T n u2.1 < n - psN T n q1.1
                  omega
              · refine tt_iload_n X rfl dX10_readProduct_85 ?_
                refine tt_if_eq X 93 (by first | omega | (simp (disch := decide) only [ot_rd, ot_rs, ot_rf, ot_ucd, ot_ucs]; omega)) dX10_readProduct_86 (by decide) (fun b86 => ?_) (fun b86 => ?_)
                · refine tt_iconst X dX10_readProduct_93 ?_
                  refine tt_top (show _ = (if tkT T n q1.1 = 42 then (4 : Int) else 5) by first | (rw [if_pos (hi42.mp (by omega))]; done) | (rw [if_neg (fun q => by have := hi42.mpr q; omega)]; done)) ?_
                  exact J94
                · refine tt_iconst X dX10_readProduct_89 ?_
                  refine tt_goto X 94 dX10_readProduct_90 (by decide) ?_
                  refine tt_top (show _ = (if tkT T n q1.1 = 42 then (4 : Int) else 5) by first | (rw [if_pos (hi42.mp (by omega))]; done) | (rw [if_neg (fun q => by have := hi42.mpr q; omega)]; done)) ?_
                  exact J94
            · refine tt_iconst X dX10_readProduct_82 ?_
              refine tt_iret X ⟨hr.1, hr.2.1⟩ (by decide) (by decide) dX10_readProduct_83 ?_
              cases hu2 : unR (tkT T n) (vlT T n) (q1.1 + 1) q1.2 with
              | inr u2 => rw [hu2] at hq75; exact absurd hq75.1 (by omega)
              | inl f =>
                rw [hu2] at hq75
                refine ⟨rfl, .inl f, ?_, rfl, hq75.2⟩
                unfold prR
                rw [hI.2.1]
                intro w
                refine (hI.2.2.1 w _).mpr ((pr_step ht4 w).1 _ ?_)
                show (if tkT T n q1.1 = 42 then unR (tkT T n) (vlT T n) (q1.1 + 1) q1.2 else if tkT T n (q1.1 + 1) ≠ 20 then _ else _) = _
                by_cases w4 : tkT T n q1.1 = 42
                · rw [if_pos w4]; exact hu2
                · exfalso
                  have hz0 : z31 = 0 := by have := fun h => w4 (hi42.mp h); omega
                  have h20c : tkT T n (q1.1 + 1) = 20 := knum.mp (by omega)
                  unfold unR at hu2
                  rw [if_pos h20c] at hu2
                  cases hu2
          · refine tt_aload_n X rfl dX10_readProduct_61 ?_
            refine tt_geti X fX10_148 (k_60 _ _) (by decide) (Or.inl rfl) dX10_readProduct_62 ?_
            try simp (disch := decide) only [ot_rd, ot_rs, ot_rf, ot_ucd, ot_ucs]
            refine tt_if_ne X 74 (by first | omega | (simp (disch := decide) only [ot_rd, ot_rs, ot_rf, ot_ucd, ot_ucs]; omega)) dX10_readProduct_65 (by decide) (fun b65 => ?_) (fun b65 => ?_)
            · refine tt_aload_n X rfl dX10_readProduct_74 ?_
              refine tt_vi X rfl mX10_183 (q_readUnit l g ln ext _ T n μb b f0 h0 hg (q1.1 + 1, q1.2) hs36 (by by_cases w : psN T n (q1.1 + 1) < n; exact Or.inl (by have := psN_idx w; show b + q1.2.length < 400; omega); exact Or.inr (tk_end w))) (k_60 _ _) ⟨_, rfl, rfl⟩ rfl rfl (Nat.le_of_ble_eq_true rfl) (by decide) (by decide) (by decide) dX10_readProduct_75 (fun z75 L75 μ75 hp => ?_)
              obtain ⟨rfl, hq75⟩ := hp
              have hz75 : z75 = -1 ∨ z75 = 0 := by
                cases hu : unR (tkT T n) (vlT T n) (q1.1 + 1) q1.2 with
                | inl f => rw [hu] at hq75; exact Or.inl hq75.1
                | inr u2 => rw [hu] at hq75; exact Or.inr hq75.1
              refine tt_iconst X dX10_readProduct_78 ?_
              refine tt_icmp_ne X 84 (by first | omega | (simp (disch := decide) only [ot_rd, ot_rs, ot_rf, ot_ucd, ot_ucs]; omega)) dX10_readProduct_79 (by decide) (fun b79 => ?_) (fun b79 => ?_)
              · obtain ⟨u2, hu2⟩ : ∃ u2, unR (tkT T n) (vlT T n) (q1.1 + 1) q1.2 = .inr u2 := by
                  cases hu2 : unR (tkT T n) (vlT T n) (q1.1 + 1) q1.2 with
                  | inl f => rw [hu2] at hq75; exact absurd hq75.1 (by omega)
                  | inr u2 => exact ⟨u2, rfl⟩
                rw [hu2] at hq75
                have hs84 := hq75.2
                have hul := unR_len hu2
                have hltu : psN T n (q1.1 + 1) < n := by
                  apply Classical.byContradiction
                  intro w
                  have h21b : tkT T n (q1.1 + 1) = 21 := tk_end w
                  unfold unR at hu2
                  rw [h21b, if_neg (by decide), if_neg (by decide)] at hu2
                  cases hu2
                have hixu := psN_idx hltu
                have hfc : fcB (tkT T n) (vlT T n) (tkT T n q1.1) (.inr (q1.1 + 1, q1.2)) = .inr u2 := by
                  show (if tkT T n q1.1 = 42 then unR (tkT T n) (vlT T n) (q1.1 + 1) q1.2 else if tkT T n (q1.1 + 1) ≠ 20 then _ else if vlT T n (q1.1 + 1) = 0 then _ else _) = _
                  by_cases w : tkT T n q1.1 = 42
                  · rw [if_pos w]; exact hu2
                  · have hz0 : z31 = 0 := by have := fun h => w (hi42.mp h); omega
                    have h20c : tkT T n (q1.1 + 1) = 20 := knum.mp (by omega)
                    have hvc : vlT T n (q1.1 + 1) ≠ 0 := by
                      have e1 : vlT T n (q1.1 + 1) = vlN T n (psN T n (q1.1 + 1)) := if_pos h20c
                      rw [e1]
                      have hv2 : μ36 60 21 = vlN T n (psN T n (q1.1 + 1)) := by
                        have h20d : tkN T n (psN T n (q1.1 + 1)) = 20 := h20c
                        rcases htq2 with c | c | c | c | c <;> (dsimp only at c; omega)
                      omega
                    rw [if_neg w, if_neg (by omega), if_neg hvc]
                    unfold unR at hu2
                    rw [if_pos h20c] at hu2
                    exact hu2
                refine tt_aload_n X rfl dX10_readProduct_84 ?_
                refine tt_join1 94 [.inl (if tkT T n q1.1 = 42 then 4 else 5), .inr 60] ?_ (fun J94 => ?_)
                · refine tt_iconst X dX10_readProduct_94 ?_
                  refine tt_vv X rfl mX10_176 (q_emits l g ln ext _ _ _ (by rw [hs84.2.2.2.2.2.1]; omega)) (k_60 _ _) ⟨_, rfl, rfl⟩ rfl rfl (Nat.le_of_ble_eq_true rfl) (by decide) (by decide) (by decide) dX10_readProduct_95 (fun L95 μ95 hp => ?_)
                  obtain ⟨rfl, e95⟩ := hp
                  have hs95 := qS_emit (x := ((if tkT T n q1.1 = 42 then 4 else 5), 0)) hs84 e95
                  refine tt_goto X 10 dX10_readProduct_98 (by decide) ?_
                  refine tt_loc [(0, _)] ⟨rfl, trivial⟩ ?_
                  have hgr := psN_grow hlt1
                  have hgr2 : psN T n (q1.1 + 1) ≤ psN T n u2.1 := by
                    rw [hul.1]
                    exact Nat.le_of_lt (psN_grow hltu)
                  refine ih (_, (u2.1, u2.2 ++ [((if tkT T n q1.1 = 42 then 4 else 5), 0)])) ⟨hs95, hI.2.1, fun w x => ?_, ?_, ?_, ?_⟩ ?_
                  · exact (hI.2.2.1 w x).trans ((pr_step (by omega) w).2 u2 hfc x)
                  · show (u2.2 ++ _).length + q.1 = q.2.length + u2.1
                    rw [List.length_append]
                    show u2.2.length + 1 + q.1 = _
                    omega
                  · show q.1 < u2.1
                    omega
                  · show tkT T n (u2.1 - 1) ≠ 21
                    exact unR_tk hu2
                  · show n - psN T n u2.1 < n - psN T n q1.1
                    omega
                · refine tt_iload_n X rfl dX10_readProduct_85 ?_
                  refine tt_if_eq X 93 (by first | omega | (simp (disch := decide) only [ot_rd, ot_rs, ot_rf, ot_ucd, ot_ucs]; omega)) dX10_readProduct_86 (by decide) (fun b86 => ?_) (fun b86 => ?_)
                  · refine tt_iconst X dX10_readProduct_93 ?_
                    refine tt_top (show _ = (if tkT T n q1.1 = 42 then (4 : Int) else 5) by first | (rw [if_pos (hi42.mp (by omega))]; done) | (rw [if_neg (fun q => by have := hi42.mpr q; omega)]; done)) ?_
                    exact J94
                  · refine tt_iconst X dX10_readProduct_89 ?_
                    refine tt_goto X 94 dX10_readProduct_90 (by decide) ?_
                    refine tt_top (show _ = (if tkT T n q1.1 = 42 then (4 : Int) else 5) by first | (rw [if_pos (hi42.mp (by omega))]; done) | (rw [if_neg (fun q => by have := hi42.mpr q; omega)]; done)) ?_
                    exact J94
              · refine tt_iconst X dX10_readProduct_82 ?_
                refine tt_iret X ⟨hr.1, hr.2.1⟩ (by decide) (by decide) dX10_readProduct_83 ?_
                cases hu2 : unR (tkT T n) (vlT T n) (q1.1 + 1) q1.2 with
                | inr u2 => rw [hu2] at hq75; exact absurd hq75.1 (by omega)
                | inl f =>
                  rw [hu2] at hq75
                  refine ⟨rfl, .inl f, ?_, rfl, hq75.2⟩
                  unfold prR
                  rw [hI.2.1]
                  intro w
                  refine (hI.2.2.1 w _).mpr ((pr_step ht4 w).1 _ ?_)
                  show (if tkT T n q1.1 = 42 then unR (tkT T n) (vlT T n) (q1.1 + 1) q1.2 else if tkT T n (q1.1 + 1) ≠ 20 then _ else _) = _
                  by_cases w4 : tkT T n q1.1 = 42
                  · rw [if_pos w4]; exact hu2
                  · exfalso
                    have hz0 : z31 = 0 := by have := fun h => w4 (hi42.mp h); omega
                    have h20c : tkT T n (q1.1 + 1) = 20 := knum.mp (by omega)
                    unfold unR at hu2
                    rw [if_pos h20c] at hu2
                    cases hu2
            · refine tt_aload_n X rfl dX10_readProduct_68 ?_
              refine tt_iconst X dX10_readProduct_69 ?_
              refine tt_vi X rfl mX10_173 (q_errs l g ln ext _ _) (k_60 _ _) ⟨_, rfl, rfl⟩ rfl rfl (Nat.le_of_ble_eq_true rfl) (by decide) (by decide) (by decide) dX10_readProduct_70 (fun z70 L70 μ70 hp => ?_)
              obtain ⟨rfl, e70, hz70⟩ := hp
              have hs70 := qS_err hs36 e70
              try simp (disch := decide) only [ot_rd, ot_rs, ot_rf, ot_ucd, ot_ucs] at hz70
              refine tt_iret X ⟨hr.1, hr.2.1⟩ (by decide) (by decide) dX10_readProduct_73 ?_
              refine ⟨rfl, .inl (2, q1.1 + 1), ?_, hz70, hs70⟩
              unfold prR
              rw [hI.2.1]
              intro w
              refine (hI.2.2.1 w _).mpr ((pr_step ht4 w).1 _ ?_)
              have w4 : ¬ tkT T n q1.1 = 42 := fun h => by have := hi42.mpr h; omega
              have w20 : tkT T n (q1.1 + 1) = 20 := knum.mp (by omega)
              have wv : vlT T n (q1.1 + 1) = 0 := by
                have e1 : vlT T n (q1.1 + 1) = vlN T n (psN T n (q1.1 + 1)) := if_pos w20
                rw [e1]
                have h20d : tkN T n (psN T n (q1.1 + 1)) = 20 := w20
                rcases htq2 with c | c | c | c | c <;> (dsimp only at c; omega)
              show (if tkT T n q1.1 = 42 then _ else if tkT T n (q1.1 + 1) ≠ 20 then _ else if vlT T n (q1.1 + 1) = 0 then _ else _) = _
              rw [if_neg w4, if_neg (by omega), if_pos wv]
        · refine tt_aload_n X rfl dX10_readProduct_51 ?_
          refine tt_iconst X dX10_readProduct_52 ?_
          refine tt_vi X rfl mX10_173 (q_errs l g ln ext _ _) (k_60 _ _) ⟨_, rfl, rfl⟩ rfl rfl (Nat.le_of_ble_eq_true rfl) (by decide) (by decide) (by decide) dX10_readProduct_53 (fun z53 L53 μ53 hp => ?_)
          obtain ⟨rfl, e53, hz53⟩ := hp
          have hs53 := qS_err hs36 e53
          try simp (disch := decide) only [ot_rd, ot_rs, ot_rf, ot_ucd, ot_ucs] at hz53
          refine tt_iret X ⟨hr.1, hr.2.1⟩ (by decide) (by decide) dX10_readProduct_56 ?_
          refine ⟨rfl, .inl (1, q1.1 + 1), ?_, hz53, hs53⟩
          unfold prR
          rw [hI.2.1]
          intro w
          refine (hI.2.2.1 w _).mpr ((pr_step ht4 w).1 _ ?_)
          have w4 : ¬ tkT T n q1.1 = 42 := fun h => by have := hi42.mpr h; omega
          have w20 : tkT T n (q1.1 + 1) ≠ 20 := fun h => by have := knum.mpr h; omega
          show (if tkT T n q1.1 = 42 then _ else if tkT T n (q1.1 + 1) ≠ 20 then _ else _) = _
          rw [if_neg w4, if_pos w20]
    · refine tt_aload_n X rfl dX10_readProduct_19 ?_
      refine tt_bipush X (by decide) dX10_readProduct_20 ?_
      refine tt_vi X rfl mX10_187 (q_isSign l g ln ext _ 47 (by omega) (by have := tqR_20 hI.1.2.2.2.1; omega) (by have := hI.1.2.2.2.2.1; omega)) (k_60 _ _) ⟨_, rfl, rfl⟩ rfl rfl (Nat.le_of_ble_eq_true rfl) (by decide) (by decide) (by decide) dX10_readProduct_22 (fun z22 L22 μ22 hp => ?_)
      obtain ⟨rfl, e22, hz22⟩ := hp
      replace e22 := e22.symm
      subst e22
      try simp (disch := decide) only [ot_rd, ot_rs, ot_rf, ot_ucd, ot_ucs] at hz22
      refine tt_if_eq X 101 (by rw [hz22]; split <;> omega) dX10_readProduct_25 (by decide) (fun b25 => ?_) (fun b25 => ?_)
      · refine tt_iconst X dX10_readProduct_101 ?_
        refine tt_iret X ⟨hr.1, hr.2.1⟩ (by decide) (by decide) dX10_readProduct_102 ?_
        refine ⟨rfl, .inr q1, ?_, rfl, hI.1⟩
        unfold prR
        rw [hI.2.1]
        have n42 : tkT T n q1.1 ≠ 42 := fun h => by rw [if_pos (k42.mpr h)] at hz13; omega
        have n47 : tkT T n q1.1 ≠ 47 := fun h => by rw [if_pos (k47.mpr h)] at hz22; omega
        exact ⟨hI.2.2.1, n42, n47, hI.2.2.2.1, hI.2.2.2.2.1, hI.2.2.2.2.2⟩
      · have ht4 : tkT T n q1.1 = 42 ∨ tkT T n q1.1 = 47 := by
          show tkN T n (psN T n q1.1) = 42 ∨ tkN T n (psN T n q1.1) = 47
          first
            | exact Or.inl (k42.mp (Classical.byContradiction fun w => by rw [if_neg w] at hz13; omega))
            | exact Or.inr (k47.mp (Classical.byContradiction fun w => by rw [if_neg w] at hz22; omega))
        have hlt1 : psN T n q1.1 < n := tk_lt_n (by have : tkT T n q1.1 = tkN T n (psN T n q1.1) := rfl; omega)
        have hix := psN_idx hlt1
        refine tt_aload_n X rfl dX10_readProduct_28 ?_
        refine tt_bipush X (by decide) dX10_readProduct_29 ?_
        refine tt_vi X rfl mX10_187 (q_isSign l g ln ext _ 42 (by omega) (by have := tqR_20 hI.1.2.2.2.1; omega) (by have := hI.1.2.2.2.2.1; omega)) (k_60 _ _) ⟨_, rfl, rfl⟩ rfl rfl (Nat.le_of_ble_eq_true rfl) (by decide) (by decide) (by decide) dX10_readProduct_31 (fun z31 L31 μ31 hp => ?_)
        obtain ⟨rfl, e31, hz31⟩ := hp
        replace e31 := e31.symm
        subst e31
        try simp (disch := decide) only [ot_rd, ot_rs, ot_rf, ot_ucd, ot_ucs] at hz31
        have hi42 : z31 ≠ 0 ↔ tkT T n q1.1 = 42 := by
          show z31 ≠ 0 ↔ tkN T n (psN T n q1.1) = 42
          rw [← k42, hz31]
          split
          · rename_i w; exact ⟨fun _ => w, fun _ => by decide⟩
          · rename_i w; exact ⟨fun h => absurd rfl h, fun h => absurd h w⟩
        have hz31r : z31 = 0 ∨ z31 = 1 := by rw [hz31]; split <;> omega
        refine tt_istore_n X dX10_readProduct_34 (by decide) ?_
        refine tt_aload_n X rfl dX10_readProduct_35 ?_
        refine tt_vv X rfl mX10_180 (q_reads l g ln ext _ (spT T n _) hI.1.2.1 T n (by rw [hI.1.1.1 72 (by decide) (by decide) (by decide)]; exact gT) gT2 gn (by rw [hI.1.1.2 17 (by decide) (by decide) (by decide) (by decide) (by decide) (by decide) (by decide)]; exact gt) (spT_le (psN_le _)) (by rw [hI.1.1.1 73 (by decide) (by decide) (by decide)]; exact gw)) (k_60 _ _) ⟨_, rfl, rfl⟩ rfl rfl (Nat.le_of_ble_eq_true rfl) (by decide) (by decide) (by decide) dX10_readProduct_36 (fun L36 μ36 hp => ?_)
        obtain ⟨rfl, sp36, tk36, vl36, e36, hsp36, ht36, hv36⟩ := hp
        have hs36 := qS_reads hI.1 (tk_lt_n (by omega)) e36 hsp36 ht36 hv36
        have htq2 := hs36.2.2.2.1
        have h202 := tqR_20 htq2
        have h212 := hs36.2.2.2.2.1
        have knum := tq_num htq2
        refine tt_iload_n X rfl dX10_readProduct_39 ?_
        refine tt_if_ne X 57 (by first | omega | (simp (disch := decide) only [ot_rd, ot_rs, ot_rf, ot_ucd, ot_ucs]; omega)) dX10_readProduct_40 (by decide) (fun b40 => ?_) (fun b40 => ?_)
        · refine tt_iload_n X rfl dX10_readProduct_57 ?_
          refine tt_if_ne X 74 (by first | omega | (simp (disch := decide) only [ot_rd, ot_rs, ot_rf, ot_ucd, ot_ucs]; omega)) dX10_readProduct_58 (by decide) (fun b58 => ?_) (fun b58 => ?_)
          · refine tt_aload_n X rfl dX10_readProduct_74 ?_
            refine tt_vi X rfl mX10_183 (q_readUnit l g ln ext _ T n μb b f0 h0 hg (q1.1 + 1, q1.2) hs36 (by by_cases w : psN T n (q1.1 + 1) < n; exact Or.inl (by have := psN_idx w; show b + q1.2.length < 400; omega); exact Or.inr (tk_end w))) (k_60 _ _) ⟨_, rfl, rfl⟩ rfl rfl (Nat.le_of_ble_eq_true rfl) (by decide) (by decide) (by decide) dX10_readProduct_75 (fun z75 L75 μ75 hp => ?_)
            obtain ⟨rfl, hq75⟩ := hp
            have hz75 : z75 = -1 ∨ z75 = 0 := by
              cases hu : unR (tkT T n) (vlT T n) (q1.1 + 1) q1.2 with
              | inl f => rw [hu] at hq75; exact Or.inl hq75.1
              | inr u2 => rw [hu] at hq75; exact Or.inr hq75.1
            refine tt_iconst X dX10_readProduct_78 ?_
            refine tt_icmp_ne X 84 (by first | omega | (simp (disch := decide) only [ot_rd, ot_rs, ot_rf, ot_ucd, ot_ucs]; omega)) dX10_readProduct_79 (by decide) (fun b79 => ?_) (fun b79 => ?_)
            · obtain ⟨u2, hu2⟩ : ∃ u2, unR (tkT T n) (vlT T n) (q1.1 + 1) q1.2 = .inr u2 := by
                cases hu2 : unR (tkT T n) (vlT T n) (q1.1 + 1) q1.2 with
                | inl f => rw [hu2] at hq75; exact absurd hq75.1 (by omega)
                | inr u2 => exact ⟨u2, rfl⟩
              rw [hu2] at hq75
              have hs84 := hq75.2
              have hul := unR_len hu2
              have hltu : psN T n (q1.1 + 1) < n := by
                apply Classical.byContradiction
                intro w
                have h21b : tkT T n (q1.1 + 1) = 21 := tk_end w
                unfold unR at hu2
                rw [h21b, if_neg (by decide), if_neg (by decide)] at hu2
                cases hu2
              have hixu := psN_idx hltu
              have hfc : fcB (tkT T n) (vlT T n) (tkT T n q1.1) (.inr (q1.1 + 1, q1.2)) = .inr u2 := by
                show (if tkT T n q1.1 = 42 then unR (tkT T n) (vlT T n) (q1.1 + 1) q1.2 else if tkT T n (q1.1 + 1) ≠ 20 then _ else if vlT T n (q1.1 + 1) = 0 then _ else _) = _
                by_cases w : tkT T n q1.1 = 42
                · rw [if_pos w]; exact hu2
                · have hz0 : z31 = 0 := by have := fun h => w (hi42.mp h); omega
                  have h20c : tkT T n (q1.1 + 1) = 20 := knum.mp (by omega)
                  have hvc : vlT T n (q1.1 + 1) ≠ 0 := by
                    have e1 : vlT T n (q1.1 + 1) = vlN T n (psN T n (q1.1 + 1)) := if_pos h20c
                    rw [e1]
                    have hv2 : μ36 60 21 = vlN T n (psN T n (q1.1 + 1)) := by
                      have h20d : tkN T n (psN T n (q1.1 + 1)) = 20 := h20c
                      rcases htq2 with c | c | c | c | c <;> (dsimp only at c; omega)
                    omega
                  rw [if_neg w, if_neg (by omega), if_neg hvc]
                  unfold unR at hu2
                  rw [if_pos h20c] at hu2
                  exact hu2
              refine tt_aload_n X rfl dX10_readProduct_84 ?_
              refine tt_join1 94 [.inl (if tkT T n q1.1 = 42 then 4 else 5), .inr 60] ?_ (fun J94 => ?_)
              · refine tt_iconst X dX10_readProduct_94 ?_
                refine tt_vv X rfl mX10_176 (q_emits l g ln ext _ _ _ (by rw [hs84.2.2.2.2.2.1]; omega)) (k_60 _ _) ⟨_, rfl, rfl⟩ rfl rfl (Nat.le_of_ble_eq_true rfl) (by decide) (by decide) (by decide) dX10_readProduct_95 (fun L95 μ95 hp => ?_)
                obtain ⟨rfl, e95⟩ := hp
                have hs95 := qS_emit (x := ((if tkT T n q1.1 = 42 then 4 else 5), 0)) hs84 e95
                refine tt_goto X 10 dX10_readProduct_98 (by decide) ?_
                refine tt_loc [(0, _)] ⟨rfl, trivial⟩ ?_
                have hgr := psN_grow hlt1
                have hgr2 : psN T n (q1.1 + 1) ≤ psN T n u2.1 := by
                  rw [hul.1]
                  exact Nat.le_of_lt (psN_grow hltu)
                refine ih (_, (u2.1, u2.2 ++ [((if tkT T n q1.1 = 42 then 4 else 5), 0)])) ⟨hs95, hI.2.1, fun w x => ?_, ?_, ?_, ?_⟩ ?_
                · exact (hI.2.2.1 w x).trans ((pr_step (by omega) w).2 u2 hfc x)
                · show (u2.2 ++ _).length + q.1 = q.2.length + u2.1
                  rw [List.length_append]
                  show u2.2.length + 1 + q.1 = _
                  omega
                · show q.1 < u2.1
                  omega
                · show tkT T n (u2.1 - 1) ≠ 21
                  exact unR_tk hu2
                · show n - psN T n u2.1 < n - psN T n q1.1
                  omega
              · refine tt_iload_n X rfl dX10_readProduct_85 ?_
                refine tt_if_eq X 93 (by first | omega | (simp (disch := decide) only [ot_rd, ot_rs, ot_rf, ot_ucd, ot_ucs]; omega)) dX10_readProduct_86 (by decide) (fun b86 => ?_) (fun b86 => ?_)
                · refine tt_iconst X dX10_readProduct_93 ?_
                  refine tt_top (show _ = (if tkT T n q1.1 = 42 then (4 : Int) else 5) by first | (rw [if_pos (hi42.mp (by omega))]; done) | (rw [if_neg (fun q => by have := hi42.mpr q; omega)]; done)) ?_
                  exact J94
                · refine tt_iconst X dX10_readProduct_89 ?_
                  refine tt_goto X 94 dX10_readProduct_90 (by decide) ?_
                  refine tt_top (show _ = (if tkT T n q1.1 = 42 then (4 : Int) else 5) by first | (rw [if_pos (hi42.mp (by omega))]; done) | (rw [if_neg (fun q => by have := hi42.mpr q; omega)]; done)) ?_
                  exact J94
            · refine tt_iconst X dX10_readProduct_82 ?_
              refine tt_iret X ⟨hr.1, hr.2.1⟩ (by decide) (by decide) dX10_readProduct_83 ?_
              cases hu2 : unR (tkT T n) (vlT T n) (q1.1 + 1) q1.2 with
              | inr u2 => rw [hu2] at hq75; exact absurd hq75.1 (by omega)
              | inl f =>
                rw [hu2] at hq75
                refine ⟨rfl, .inl f, ?_, rfl, hq75.2⟩
                unfold prR
                rw [hI.2.1]
                intro w
                refine (hI.2.2.1 w _).mpr ((pr_step ht4 w).1 _ ?_)
                show (if tkT T n q1.1 = 42 then unR (tkT T n) (vlT T n) (q1.1 + 1) q1.2 else if tkT T n (q1.1 + 1) ≠ 20 then _ else _) = _
                by_cases w4 : tkT T n q1.1 = 42
                · rw [if_pos w4]; exact hu2
                · exfalso
                  have hz0 : z31 = 0 := by have := fun h => w4 (hi42.mp h); omega
                  have h20c : tkT T n (q1.1 + 1) = 20 := knum.mp (by omega)
                  unfold unR at hu2
                  rw [if_pos h20c] at hu2
                  cases hu2
          · refine tt_aload_n X rfl dX10_readProduct_61 ?_
            refine tt_geti X fX10_148 (k_60 _ _) (by decide) (Or.inl rfl) dX10_readProduct_62 ?_
            try simp (disch := decide) only [ot_rd, ot_rs, ot_rf, ot_ucd, ot_ucs]
            refine tt_if_ne X 74 (by first | omega | (simp (disch := decide) only [ot_rd, ot_rs, ot_rf, ot_ucd, ot_ucs]; omega)) dX10_readProduct_65 (by decide) (fun b65 => ?_) (fun b65 => ?_)
            · refine tt_aload_n X rfl dX10_readProduct_74 ?_
              refine tt_vi X rfl mX10_183 (q_readUnit l g ln ext _ T n μb b f0 h0 hg (q1.1 + 1, q1.2) hs36 (by by_cases w : psN T n (q1.1 + 1) < n; exact Or.inl (by have := psN_idx w; show b + q1.2.length < 400; omega); exact Or.inr (tk_end w))) (k_60 _ _) ⟨_, rfl, rfl⟩ rfl rfl (Nat.le_of_ble_eq_true rfl) (by decide) (by decide) (by decide) dX10_readProduct_75 (fun z75 L75 μ75 hp => ?_)
              obtain ⟨rfl, hq75⟩ := hp
              have hz75 : z75 = -1 ∨ z75 = 0 := by
                cases hu : unR (tkT T n) (vlT T n) (q1.1 + 1) q1.2 with
                | inl f => rw [hu] at hq75; exact Or.inl hq75.1
                | inr u2 => rw [hu] at hq75; exact Or.inr hq75.1
              refine tt_iconst X dX10_readProduct_78 ?_
              refine tt_icmp_ne X 84 (by first | omega | (simp (disch := decide) only [ot_rd, ot_rs, ot_rf, ot_ucd, ot_ucs]; omega)) dX10_readProduct_79 (by decide) (fun b79 => ?_) (fun b79 => ?_)
              · obtain ⟨u2, hu2⟩ : ∃ u2, unR (tkT T n) (vlT T n) (q1.1 + 1) q1.2 = .inr u2 := by
                  cases hu2 : unR (tkT T n) (vlT T n) (q1.1 + 1) q1.2 with
                  | inl f => rw [hu2] at hq75; exact absurd hq75.1 (by omega)
                  | inr u2 => exact ⟨u2, rfl⟩
                rw [hu2] at hq75
                have hs84 := hq75.2
                have hul := unR_len hu2
                have hltu : psN T n (q1.1 + 1) < n := by
                  apply Classical.byContradiction
                  intro w
                  have h21b : tkT T n (q1.1 + 1) = 21 := tk_end w
                  unfold unR at hu2
                  rw [h21b, if_neg (by decide), if_neg (by decide)] at hu2
                  cases hu2
                have hixu := psN_idx hltu
                have hfc : fcB (tkT T n) (vlT T n) (tkT T n q1.1) (.inr (q1.1 + 1, q1.2)) = .inr u2 := by
                  show (if tkT T n q1.1 = 42 then unR (tkT T n) (vlT T n) (q1.1 + 1) q1.2 else if tkT T n (q1.1 + 1) ≠ 20 then _ else if vlT T n (q1.1 + 1) = 0 then _ else _) = _
                  by_cases w : tkT T n q1.1 = 42
                  · rw [if_pos w]; exact hu2
                  · have hz0 : z31 = 0 := by have := fun h => w (hi42.mp h); omega
                    have h20c : tkT T n (q1.1 + 1) = 20 := knum.mp (by omega)
                    have hvc : vlT T n (q1.1 + 1) ≠ 0 := by
                      have e1 : vlT T n (q1.1 + 1) = vlN T n (psN T n (q1.1 + 1)) := if_pos h20c
                      rw [e1]
                      have hv2 : μ36 60 21 = vlN T n (psN T n (q1.1 + 1)) := by
                        have h20d : tkN T n (psN T n (q1.1 + 1)) = 20 := h20c
                        rcases htq2 with c | c | c | c | c <;> (dsimp only at c; omega)
                      omega
                    rw [if_neg w, if_neg (by omega), if_neg hvc]
                    unfold unR at hu2
                    rw [if_pos h20c] at hu2
                    exact hu2
                refine tt_aload_n X rfl dX10_readProduct_84 ?_
                refine tt_join1 94 [.inl (if tkT T n q1.1 = 42 then 4 else 5), .inr 60] ?_ (fun J94 => ?_)
                · refine tt_iconst X dX10_readProduct_94 ?_
                  refine tt_vv X rfl mX10_176 (q_emits l g ln ext _ _ _ (by rw [hs84.2.2.2.2.2.1]; omega)) (k_60 _ _) ⟨_, rfl, rfl⟩ rfl rfl (Nat.le_of_ble_eq_true rfl) (by decide) (by decide) (by decide) dX10_readProduct_95 (fun L95 μ95 hp => ?_)
                  obtain ⟨rfl, e95⟩ := hp
                  have hs95 := qS_emit (x := ((if tkT T n q1.1 = 42 then 4 else 5), 0)) hs84 e95
                  refine tt_goto X 10 dX10_readProduct_98 (by decide) ?_
                  refine tt_loc [(0, _)] ⟨rfl, trivial⟩ ?_
                  have hgr := psN_grow hlt1
                  have hgr2 : psN T n (q1.1 + 1) ≤ psN T n u2.1 := by
                    rw [hul.1]
                    exact Nat.le_of_lt (psN_grow hltu)
                  refine ih (_, (u2.1, u2.2 ++ [((if tkT T n q1.1 = 42 then 4 else 5), 0)])) ⟨hs95, hI.2.1, fun w x => ?_, ?_, ?_, ?_⟩ ?_
                  · exact (hI.2.2.1 w x).trans ((pr_step (by omega) w).2 u2 hfc x)
                  · show (u2.2 ++ _).length + q.1 = q.2.length + u2.1
                    rw [List.length_append]
                    show u2.2.length + 1 + q.1 = _
                    omega
                  · show q.1 < u2.1
                    omega
                  · show tkT T n (u2.1 - 1) ≠ 21
                    exact unR_tk hu2
                  · show n - psN T n u2.1 < n - psN T n q1.1
                    omega
                · refine tt_iload_n X rfl dX10_readProduct_85 ?_
                  refine tt_if_eq X 93 (by first | omega | (simp (disch := decide) only [ot_rd, ot_rs, ot_rf, ot_ucd, ot_ucs]; omega)) dX10_readProduct_86 (by decide) (fun b86 => ?_) (fun b86 => ?_)
                  · refine tt_iconst X dX10_readProduct_93 ?_
                    refine tt_top (show _ = (if tkT T n q1.1 = 42 then (4 : Int) else 5) by first | (rw [if_pos (hi42.mp (by omega))]; done) | (rw [if_neg (fun q => by have := hi42.mpr q; omega)]; done)) ?_
                    exact J94
                  · refine tt_iconst X dX10_readProduct_89 ?_
                    refine tt_goto X 94 dX10_readProduct_90 (by decide) ?_
                    refine tt_top (show _ = (if tkT T n q1.1 = 42 then (4 : Int) else 5) by first | (rw [if_pos (hi42.mp (by omega))]; done) | (rw [if_neg (fun q => by have := hi42.mpr q; omega)]; done)) ?_
                    exact J94
              · refine tt_iconst X dX10_readProduct_82 ?_
                refine tt_iret X ⟨hr.1, hr.2.1⟩ (by decide) (by decide) dX10_readProduct_83 ?_
                cases hu2 : unR (tkT T n) (vlT T n) (q1.1 + 1) q1.2 with
                | inr u2 => rw [hu2] at hq75; exact absurd hq75.1 (by omega)
                | inl f =>
                  rw [hu2] at hq75
                  refine ⟨rfl, .inl f, ?_, rfl, hq75.2⟩
                  unfold prR
                  rw [hI.2.1]
                  intro w
                  refine (hI.2.2.1 w _).mpr ((pr_step ht4 w).1 _ ?_)
                  show (if tkT T n q1.1 = 42 then unR (tkT T n) (vlT T n) (q1.1 + 1) q1.2 else if tkT T n (q1.1 + 1) ≠ 20 then _ else _) = _
                  by_cases w4 : tkT T n q1.1 = 42
                  · rw [if_pos w4]; exact hu2
                  · exfalso
                    have hz0 : z31 = 0 := by have := fun h => w4 (hi42.mp h); omega
                    have h20c : tkT T n (q1.1 + 1) = 20 := knum.mp (by omega)
                    unfold unR at hu2
                    rw [if_pos h20c] at hu2
                    cases hu2
            · refine tt_aload_n X rfl dX10_readProduct_68 ?_
              refine tt_iconst X dX10_readProduct_69 ?_
              refine tt_vi X rfl mX10_173 (q_errs l g ln ext _ _) (k_60 _ _) ⟨_, rfl, rfl⟩ rfl rfl (Nat.le_of_ble_eq_true rfl) (by decide) (by decide) (by decide) dX10_readProduct_70 (fun z70 L70 μ70 hp => ?_)
              obtain ⟨rfl, e70, hz70⟩ := hp
              have hs70 := qS_err hs36 e70
              try simp (disch := decide) only [ot_rd, ot_rs, ot_rf, ot_ucd, ot_ucs] at hz70
              refine tt_iret X ⟨hr.1, hr.2.1⟩ (by decide) (by decide) dX10_readProduct_73 ?_
              refine ⟨rfl, .inl (2, q1.1 + 1), ?_, hz70, hs70⟩
              unfold prR
              rw [hI.2.1]
              intro w
              refine (hI.2.2.1 w _).mpr ((pr_step ht4 w).1 _ ?_)
              have w4 : ¬ tkT T n q1.1 = 42 := fun h => by have := hi42.mpr h; omega
              have w20 : tkT T n (q1.1 + 1) = 20 := knum.mp (by omega)
              have wv : vlT T n (q1.1 + 1) = 0 := by
                have e1 : vlT T n (q1.1 + 1) = vlN T n (psN T n (q1.1 + 1)) := if_pos w20
                rw [e1]
                have h20d : tkN T n (psN T n (q1.1 + 1)) = 20 := w20
                rcases htq2 with c | c | c | c | c <;> (dsimp only at c; omega)
              show (if tkT T n q1.1 = 42 then _ else if tkT T n (q1.1 + 1) ≠ 20 then _ else if vlT T n (q1.1 + 1) = 0 then _ else _) = _
              rw [if_neg w4, if_neg (by omega), if_pos wv]
        · refine tt_aload_n X rfl dX10_readProduct_43 ?_
          refine tt_geti X fX10_145 (k_60 _ _) (by decide) (Or.inl rfl) dX10_readProduct_44 ?_
          try simp (disch := decide) only [ot_rd, ot_rs, ot_rf, ot_ucd, ot_ucs]
          refine tt_iconst X dX10_readProduct_47 ?_
          refine tt_icmp_eq X 57 (by first | omega | (simp (disch := decide) only [ot_rd, ot_rs, ot_rf, ot_ucd, ot_ucs]; omega)) dX10_readProduct_48 (by decide) (fun b48 => ?_) (fun b48 => ?_)
          · refine tt_iload_n X rfl dX10_readProduct_57 ?_
            refine tt_if_ne X 74 (by first | omega | (simp (disch := decide) only [ot_rd, ot_rs, ot_rf, ot_ucd, ot_ucs]; omega)) dX10_readProduct_58 (by decide) (fun b58 => ?_) (fun b58 => ?_)
            · refine tt_aload_n X rfl dX10_readProduct_74 ?_
              refine tt_vi X rfl mX10_183 (q_readUnit l g ln ext _ T n μb b f0 h0 hg (q1.1 + 1, q1.2) hs36 (by by_cases w : psN T n (q1.1 + 1) < n; exact Or.inl (by have := psN_idx w; show b + q1.2.length < 400; omega); exact Or.inr (tk_end w))) (k_60 _ _) ⟨_, rfl, rfl⟩ rfl rfl (Nat.le_of_ble_eq_true rfl) (by decide) (by decide) (by decide) dX10_readProduct_75 (fun z75 L75 μ75 hp => ?_)
              obtain ⟨rfl, hq75⟩ := hp
              have hz75 : z75 = -1 ∨ z75 = 0 := by
                cases hu : unR (tkT T n) (vlT T n) (q1.1 + 1) q1.2 with
                | inl f => rw [hu] at hq75; exact Or.inl hq75.1
                | inr u2 => rw [hu] at hq75; exact Or.inr hq75.1
              refine tt_iconst X dX10_readProduct_78 ?_
              refine tt_icmp_ne X 84 (by first | omega | (simp (disch := decide) only [ot_rd, ot_rs, ot_rf, ot_ucd, ot_ucs]; omega)) dX10_readProduct_79 (by decide) (fun b79 => ?_) (fun b79 => ?_)
              · obtain ⟨u2, hu2⟩ : ∃ u2, unR (tkT T n) (vlT T n) (q1.1 + 1) q1.2 = .inr u2 := by
                  cases hu2 : unR (tkT T n) (vlT T n) (q1.1 + 1) q1.2 with
                  | inl f => rw [hu2] at hq75; exact absurd hq75.1 (by omega)
                  | inr u2 => exact ⟨u2, rfl⟩
                rw [hu2] at hq75
                have hs84 := hq75.2
                have hul := unR_len hu2
                have hltu : psN T n (q1.1 + 1) < n := by
                  apply Classical.byContradiction
                  intro w
                  have h21b : tkT T n (q1.1 + 1) = 21 := tk_end w
                  unfold unR at hu2
                  rw [h21b, if_neg (by decide), if_neg (by decide)] at hu2
                  cases hu2
                have hixu := psN_idx hltu
                have hfc : fcB (tkT T n) (vlT T n) (tkT T n q1.1) (.inr (q1.1 + 1, q1.2)) = .inr u2 := by
                  show (if tkT T n q1.1 = 42 then unR (tkT T n) (vlT T n) (q1.1 + 1) q1.2 else if tkT T n (q1.1 + 1) ≠ 20 then _ else if vlT T n (q1.1 + 1) = 0 then _ else _) = _
                  by_cases w : tkT T n q1.1 = 42
                  · rw [if_pos w]; exact hu2
                  · have hz0 : z31 = 0 := by have := fun h => w (hi42.mp h); omega
                    have h20c : tkT T n (q1.1 + 1) = 20 := knum.mp (by omega)
                    have hvc : vlT T n (q1.1 + 1) ≠ 0 := by
                      have e1 : vlT T n (q1.1 + 1) = vlN T n (psN T n (q1.1 + 1)) := if_pos h20c
                      rw [e1]
                      have hv2 : μ36 60 21 = vlN T n (psN T n (q1.1 + 1)) := by
                        have h20d : tkN T n (psN T n (q1.1 + 1)) = 20 := h20c
                        rcases htq2 with c | c | c | c | c <;> (dsimp only at c; omega)
                      omega
                    rw [if_neg w, if_neg (by omega), if_neg hvc]
                    unfold unR at hu2
                    rw [if_pos h20c] at hu2
                    exact hu2
                refine tt_aload_n X rfl dX10_readProduct_84 ?_
                refine tt_join1 94 [.inl (if tkT T n q1.1 = 42 then 4 else 5), .inr 60] ?_ (fun J94 => ?_)
                · refine tt_iconst X dX10_readProduct_94 ?_
                  refine tt_vv X rfl mX10_176 (q_emits l g ln ext _ _ _ (by rw [hs84.2.2.2.2.2.1]; omega)) (k_60 _ _) ⟨_, rfl, rfl⟩ rfl rfl (Nat.le_of_ble_eq_true rfl) (by decide) (by decide) (by decide) dX10_readProduct_95 (fun L95 μ95 hp => ?_)
                  obtain ⟨rfl, e95⟩ := hp
                  have hs95 := qS_emit (x := ((if tkT T n q1.1 = 42 then 4 else 5), 0)) hs84 e95
                  refine tt_goto X 10 dX10_readProduct_98 (by decide) ?_
                  refine tt_loc [(0, _)] ⟨rfl, trivial⟩ ?_
                  have hgr := psN_grow hlt1
                  have hgr2 : psN T n (q1.1 + 1) ≤ psN T n u2.1 := by
                    rw [hul.1]
                    exact Nat.le_of_lt (psN_grow hltu)
                  refine ih (_, (u2.1, u2.2 ++ [((if tkT T n q1.1 = 42 then 4 else 5), 0)])) ⟨hs95, hI.2.1, fun w x => ?_, ?_, ?_, ?_⟩ ?_
                  · exact (hI.2.2.1 w x).trans ((pr_step (by omega) w).2 u2 hfc x)
                  · show (u2.2 ++ _).length + q.1 = q.2.length + u2.1
                    rw [List.length_append]
                    show u2.2.length + 1 + q.1 = _
                    omega
                  · show q.1 < u2.1
                    omega
                  · show tkT T n (u2.1 - 1) ≠ 21
                    exact unR_tk hu2
                  · show n - psN T n u2.1 < n - psN T n q1.1
                    omega
                · refine tt_iload_n X rfl dX10_readProduct_85 ?_
                  refine tt_if_eq X 93 (by first | omega | (simp (disch := decide) only [ot_rd, ot_rs, ot_rf, ot_ucd, ot_ucs]; omega)) dX10_readProduct_86 (by decide) (fun b86 => ?_) (fun b86 => ?_)
                  · refine tt_iconst X dX10_readProduct_93 ?_
                    refine tt_top (show _ = (if tkT T n q1.1 = 42 then (4 : Int) else 5) by first | (rw [if_pos (hi42.mp (by omega))]; done) | (rw [if_neg (fun q => by have := hi42.mpr q; omega)]; done)) ?_
                    exact J94
                  · refine tt_iconst X dX10_readProduct_89 ?_
                    refine tt_goto X 94 dX10_readProduct_90 (by decide) ?_
                    refine tt_top (show _ = (if tkT T n q1.1 = 42 then (4 : Int) else 5) by first | (rw [if_pos (hi42.mp (by omega))]; done) | (rw [if_neg (fun q => by have := hi42.mpr q; omega)]; done)) ?_
                    exact J94
              · refine tt_iconst X dX10_readProduct_82 ?_
                refine tt_iret X ⟨hr.1, hr.2.1⟩ (by decide) (by decide) dX10_readProduct_83 ?_
                cases hu2 : unR (tkT T n) (vlT T n) (q1.1 + 1) q1.2 with
                | inr u2 => rw [hu2] at hq75; exact absurd hq75.1 (by omega)
                | inl f =>
                  rw [hu2] at hq75
                  refine ⟨rfl, .inl f, ?_, rfl, hq75.2⟩
                  unfold prR
                  rw [hI.2.1]
                  intro w
                  refine (hI.2.2.1 w _).mpr ((pr_step ht4 w).1 _ ?_)
                  show (if tkT T n q1.1 = 42 then unR (tkT T n) (vlT T n) (q1.1 + 1) q1.2 else if tkT T n (q1.1 + 1) ≠ 20 then _ else _) = _
                  by_cases w4 : tkT T n q1.1 = 42
                  · rw [if_pos w4]; exact hu2
                  · exfalso
                    have hz0 : z31 = 0 := by have := fun h => w4 (hi42.mp h); omega
                    have h20c : tkT T n (q1.1 + 1) = 20 := knum.mp (by omega)
                    unfold unR at hu2
                    rw [if_pos h20c] at hu2
                    cases hu2
            · refine tt_aload_n X rfl dX10_readProduct_61 ?_
              refine tt_geti X fX10_148 (k_60 _ _) (by decide) (Or.inl rfl) dX10_readProduct_62 ?_
              try simp (disch := decide) only [ot_rd, ot_rs, ot_rf, ot_ucd, ot_ucs]
              refine tt_if_ne X 74 (by first | omega | (simp (disch := decide) only [ot_rd, ot_rs, ot_rf, ot_ucd, ot_ucs]; omega)) dX10_readProduct_65 (by decide) (fun b65 => ?_) (fun b65 => ?_)
              · refine tt_aload_n X rfl dX10_readProduct_74 ?_
                refine tt_vi X rfl mX10_183 (q_readUnit l g ln ext _ T n μb b f0 h0 hg (q1.1 + 1, q1.2) hs36 (by by_cases w : psN T n (q1.1 + 1) < n; exact Or.inl (by have := psN_idx w; show b + q1.2.length < 400; omega); exact Or.inr (tk_end w))) (k_60 _ _) ⟨_, rfl, rfl⟩ rfl rfl (Nat.le_of_ble_eq_true rfl) (by decide) (by decide) (by decide) dX10_readProduct_75 (fun z75 L75 μ75 hp => ?_)
                obtain ⟨rfl, hq75⟩ := hp
                have hz75 : z75 = -1 ∨ z75 = 0 := by
                  cases hu : unR (tkT T n) (vlT T n) (q1.1 + 1) q1.2 with
                  | inl f => rw [hu] at hq75; exact Or.inl hq75.1
                  | inr u2 => rw [hu] at hq75; exact Or.inr hq75.1
                refine tt_iconst X dX10_readProduct_78 ?_
                refine tt_icmp_ne X 84 (by first | omega | (simp (disch := decide) only [ot_rd, ot_rs, ot_rf, ot_ucd, ot_ucs]; omega)) dX10_readProduct_79 (by decide) (fun b79 => ?_) (fun b79 => ?_)
                · obtain ⟨u2, hu2⟩ : ∃ u2, unR (tkT T n) (vlT T n) (q1.1 + 1) q1.2 = .inr u2 := by
                    cases hu2 : unR (tkT T n) (vlT T n) (q1.1 + 1) q1.2 with
                    | inl f => rw [hu2] at hq75; exact absurd hq75.1 (by omega)
                    | inr u2 => exact ⟨u2, rfl⟩
                  rw [hu2] at hq75
                  have hs84 := hq75.2
                  have hul := unR_len hu2
                  have hltu : psN T n (q1.1 + 1) < n := by
                    apply Classical.byContradiction
                    intro w
                    have h21b : tkT T n (q1.1 + 1) = 21 := tk_end w
                    unfold unR at hu2
                    rw [h21b, if_neg (by decide), if_neg (by decide)] at hu2
                    cases hu2
                  have hixu := psN_idx hltu
                  have hfc : fcB (tkT T n) (vlT T n) (tkT T n q1.1) (.inr (q1.1 + 1, q1.2)) = .inr u2 := by
                    show (if tkT T n q1.1 = 42 then unR (tkT T n) (vlT T n) (q1.1 + 1) q1.2 else if tkT T n (q1.1 + 1) ≠ 20 then _ else if vlT T n (q1.1 + 1) = 0 then _ else _) = _
                    by_cases w : tkT T n q1.1 = 42
                    · rw [if_pos w]; exact hu2
                    · have hz0 : z31 = 0 := by have := fun h => w (hi42.mp h); omega
                      have h20c : tkT T n (q1.1 + 1) = 20 := knum.mp (by omega)
                      have hvc : vlT T n (q1.1 + 1) ≠ 0 := by
                        have e1 : vlT T n (q1.1 + 1) = vlN T n (psN T n (q1.1 + 1)) := if_pos h20c
                        rw [e1]
                        have hv2 : μ36 60 21 = vlN T n (psN T n (q1.1 + 1)) := by
                          have h20d : tkN T n (psN T n (q1.1 + 1)) = 20 := h20c
                          rcases htq2 with c | c | c | c | c <;> (dsimp only at c; omega)
                        omega
                      rw [if_neg w, if_neg (by omega), if_neg hvc]
                      unfold unR at hu2
                      rw [if_pos h20c] at hu2
                      exact hu2
                  refine tt_aload_n X rfl dX10_readProduct_84 ?_
                  refine tt_join1 94 [.inl (if tkT T n q1.1 = 42 then 4 else 5), .inr 60] ?_ (fun J94 => ?_)
                  · refine tt_iconst X dX10_readProduct_94 ?_
                    refine tt_vv X rfl mX10_176 (q_emits l g ln ext _ _ _ (by rw [hs84.2.2.2.2.2.1]; omega)) (k_60 _ _) ⟨_, rfl, rfl⟩ rfl rfl (Nat.le_of_ble_eq_true rfl) (by decide) (by decide) (by decide) dX10_readProduct_95 (fun L95 μ95 hp => ?_)
                    obtain ⟨rfl, e95⟩ := hp
                    have hs95 := qS_emit (x := ((if tkT T n q1.1 = 42 then 4 else 5), 0)) hs84 e95
                    refine tt_goto X 10 dX10_readProduct_98 (by decide) ?_
                    refine tt_loc [(0, _)] ⟨rfl, trivial⟩ ?_
                    have hgr := psN_grow hlt1
                    have hgr2 : psN T n (q1.1 + 1) ≤ psN T n u2.1 := by
                      rw [hul.1]
                      exact Nat.le_of_lt (psN_grow hltu)
                    refine ih (_, (u2.1, u2.2 ++ [((if tkT T n q1.1 = 42 then 4 else 5), 0)])) ⟨hs95, hI.2.1, fun w x => ?_, ?_, ?_, ?_⟩ ?_
                    · exact (hI.2.2.1 w x).trans ((pr_step (by omega) w).2 u2 hfc x)
                    · show (u2.2 ++ _).length + q.1 = q.2.length + u2.1
                      rw [List.length_append]
                      show u2.2.length + 1 + q.1 = _
                      omega
                    · show q.1 < u2.1
                      omega
                    · show tkT T n (u2.1 - 1) ≠ 21
                      exact unR_tk hu2
                    · show n - psN T n u2.1 < n - psN T n q1.1
                      omega
                  · refine tt_iload_n X rfl dX10_readProduct_85 ?_
                    refine tt_if_eq X 93 (by first | omega | (simp (disch := decide) only [ot_rd, ot_rs, ot_rf, ot_ucd, ot_ucs]; omega)) dX10_readProduct_86 (by decide) (fun b86 => ?_) (fun b86 => ?_)
                    · refine tt_iconst X dX10_readProduct_93 ?_
                      refine tt_top (show _ = (if tkT T n q1.1 = 42 then (4 : Int) else 5) by first | (rw [if_pos (hi42.mp (by omega))]; done) | (rw [if_neg (fun q => by have := hi42.mpr q; omega)]; done)) ?_
                      exact J94
                    · refine tt_iconst X dX10_readProduct_89 ?_
                      refine tt_goto X 94 dX10_readProduct_90 (by decide) ?_
                      refine tt_top (show _ = (if tkT T n q1.1 = 42 then (4 : Int) else 5) by first | (rw [if_pos (hi42.mp (by omega))]; done) | (rw [if_neg (fun q => by have := hi42.mpr q; omega)]; done)) ?_
                      exact J94
                · refine tt_iconst X dX10_readProduct_82 ?_
                  refine tt_iret X ⟨hr.1, hr.2.1⟩ (by decide) (by decide) dX10_readProduct_83 ?_
                  cases hu2 : unR (tkT T n) (vlT T n) (q1.1 + 1) q1.2 with
                  | inr u2 => rw [hu2] at hq75; exact absurd hq75.1 (by omega)
                  | inl f =>
                    rw [hu2] at hq75
                    refine ⟨rfl, .inl f, ?_, rfl, hq75.2⟩
                    unfold prR
                    rw [hI.2.1]
                    intro w
                    refine (hI.2.2.1 w _).mpr ((pr_step ht4 w).1 _ ?_)
                    show (if tkT T n q1.1 = 42 then unR (tkT T n) (vlT T n) (q1.1 + 1) q1.2 else if tkT T n (q1.1 + 1) ≠ 20 then _ else _) = _
                    by_cases w4 : tkT T n q1.1 = 42
                    · rw [if_pos w4]; exact hu2
                    · exfalso
                      have hz0 : z31 = 0 := by have := fun h => w4 (hi42.mp h); omega
                      have h20c : tkT T n (q1.1 + 1) = 20 := knum.mp (by omega)
                      unfold unR at hu2
                      rw [if_pos h20c] at hu2
                      cases hu2
              · refine tt_aload_n X rfl dX10_readProduct_68 ?_
                refine tt_iconst X dX10_readProduct_69 ?_
                refine tt_vi X rfl mX10_173 (q_errs l g ln ext _ _) (k_60 _ _) ⟨_, rfl, rfl⟩ rfl rfl (Nat.le_of_ble_eq_true rfl) (by decide) (by decide) (by decide) dX10_readProduct_70 (fun z70 L70 μ70 hp => ?_)
                obtain ⟨rfl, e70, hz70⟩ := hp
                have hs70 := qS_err hs36 e70
                try simp (disch := decide) only [ot_rd, ot_rs, ot_rf, ot_ucd, ot_ucs] at hz70
                refine tt_iret X ⟨hr.1, hr.2.1⟩ (by decide) (by decide) dX10_readProduct_73 ?_
                refine ⟨rfl, .inl (2, q1.1 + 1), ?_, hz70, hs70⟩
                unfold prR
                rw [hI.2.1]
                intro w
                refine (hI.2.2.1 w _).mpr ((pr_step ht4 w).1 _ ?_)
                have w4 : ¬ tkT T n q1.1 = 42 := fun h => by have := hi42.mpr h; omega
                have w20 : tkT T n (q1.1 + 1) = 20 := knum.mp (by omega)
                have wv : vlT T n (q1.1 + 1) = 0 := by
                  have e1 : vlT T n (q1.1 + 1) = vlN T n (psN T n (q1.1 + 1)) := if_pos w20
                  rw [e1]
                  have h20d : tkN T n (psN T n (q1.1 + 1)) = 20 := w20
                  rcases htq2 with c | c | c | c | c <;> (dsimp only at c; omega)
                show (if tkT T n q1.1 = 42 then _ else if tkT T n (q1.1 + 1) ≠ 20 then _ else if vlT T n (q1.1 + 1) = 0 then _ else _) = _
                rw [if_neg w4, if_neg (by omega), if_pos wv]
          · refine tt_aload_n X rfl dX10_readProduct_51 ?_
            refine tt_iconst X dX10_readProduct_52 ?_
            refine tt_vi X rfl mX10_173 (q_errs l g ln ext _ _) (k_60 _ _) ⟨_, rfl, rfl⟩ rfl rfl (Nat.le_of_ble_eq_true rfl) (by decide) (by decide) (by decide) dX10_readProduct_53 (fun z53 L53 μ53 hp => ?_)
            obtain ⟨rfl, e53, hz53⟩ := hp
            have hs53 := qS_err hs36 e53
            try simp (disch := decide) only [ot_rd, ot_rs, ot_rf, ot_ucd, ot_ucs] at hz53
            refine tt_iret X ⟨hr.1, hr.2.1⟩ (by decide) (by decide) dX10_readProduct_56 ?_
            refine ⟨rfl, .inl (1, q1.1 + 1), ?_, hz53, hs53⟩
            unfold prR
            rw [hI.2.1]
            intro w
            refine (hI.2.2.1 w _).mpr ((pr_step ht4 w).1 _ ?_)
            have w4 : ¬ tkT T n q1.1 = 42 := fun h => by have := hi42.mpr h; omega
            have w20 : tkT T n (q1.1 + 1) ≠ 20 := fun h => by have := knum.mpr h; omega
            show (if tkT T n q1.1 = 42 then _ else if tkT T n (q1.1 + 1) ≠ 20 then _ else _) = _
            rw [if_neg w4, if_pos w20]
  · refine tt_iconst X dX10_readProduct_8 ?_
    refine tt_iret X ⟨hr.1, hr.2.1⟩ (by decide) (by decide) dX10_readProduct_9 ?_
    refine ⟨rfl, ?_⟩
    cases hu : unR (tkT T n) (vlT T n) q.1 q.2 with
    | inl f =>
      rw [hu] at hq1
      refine ⟨.inl f, by unfold prR; rw [hu], rfl, hq1.2⟩
    | inr u => rw [hu] at hq1; exact absurd hq1.1 (by omega)

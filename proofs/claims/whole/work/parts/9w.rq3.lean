theorem psN_mono {T : Nat → Int} {n i : Nat} : ∀ d, psN T n i ≤ psN T n (i + d)
  | 0 => Nat.le_refl _
  | d + 1 => by
    have ih := psN_mono (T := T) (n := n) (i := i) d
    by_cases w : psN T n (i + d) < n
    · exact Nat.le_trans ih (Nat.le_of_lt (psN_grow w))
    · have h1 := psN_le (T := T) (n := n) i
      show psN T n i ≤ psN T n (i + d + 1)
      rw [psN_s, if_neg w]
      exact h1
theorem psN_lt2 {T : Nat → Int} {n i j : Nat} (h : psN T n i < n) (hij : i < j) : psN T n i < psN T n j := by
  have h1 := psN_grow h
  have h2 := psN_mono (T := T) (n := n) (i := i + 1) (j - (i + 1))
  rw [show i + 1 + (j - (i + 1)) = j by omega] at h2
  omega
/-- a product more -/
theorem su_pr {tk vl : Nat → Int} {q : Nat × CL} {o : RS} (ht : tk q.1 = 43 ∨ tk q.1 = 45) (h : prR tk vl (q.1 + 1) q.2 o) : (∀ f, o = .inl f → sR tk vl (q.1, q.2, 0) (.inl f)) ∧ ∀ u, o = .inr u → (∀ x, sR tk vl (q.1, q.2, 0) x ↔ sR tk vl (u.1, u.2 ++ [((if tk q.1 = 43 then 2 else 3), 0)], 0) x) ∧ u.2.length + (q.1 + 1) = q.2.length + u.1 ∧ q.1 + 1 < u.1 ∧ tk u.1 ≠ 42 ∧ tk u.1 ≠ 47 ∧ tk (u.1 - 1) ≠ 21 := by
  have hst : sstR tk vl (q.1, q.2, 0) = (match unR tk vl (q.1 + 1) q.2 with
      | .inl f => .inl (.inl f)
      | .inr u => .inr (u.1, u.2, if tk q.1 = 43 then 2 else 3)) := by
    unfold sstR
    dsimp only
    rw [if_neg (by omega), if_neg (by omega), if_pos ht, show wlR 0 = [] from rfl, List.append_nil]
    cases unR tk vl (q.1 + 1) q.2 <;> rfl
  unfold prR at h
  cases hu : unR tk vl (q.1 + 1) q.2 with
  | inl f =>
    rw [hu] at h hst
    dsimp only at h hst
    subst h
    refine ⟨fun f2 e => ?_, fun u e => by cases e⟩
    cases e
    exact sR_done hst
  | inr u0 =>
    rw [hu] at h hst
    dsimp only at h hst
    cases o with
    | inl f =>
      refine ⟨fun f2 e => ?_, fun u e => by cases e⟩
      cases e
      exact (sR_step hst _).mpr (h _)
    | inr q2 =>
      obtain ⟨a1, a2, a3, a4, a5, a6⟩ := h
      refine ⟨fun f e => (by cases e), fun u e => ?_⟩
      cases e
      refine ⟨fun x => ?_, a4, a5, a2, a3, a6⟩
      refine (sR_step hst x).trans ((a1 _ x).trans ((sR_wait a2 a3 x).trans ?_))
      have : wlR (if tk q.1 = 43 then 2 else 3) = [((if tk q.1 = 43 then 2 else 3), 0)] := by by_cases w : tk q.1 = 43 <;> simp [w, wlR]
      rw [this]
theorem su_first {tk vl : Nat → Int} {j : Nat} {cs : CL} {o : RS} (h : prR tk vl j cs o) : (∀ f, o = .inl f → suR tk vl j cs (.inl f)) ∧ ∀ q, o = .inr q → (∀ x, suR tk vl j cs x ↔ sR tk vl (q.1, q.2, 0) x) ∧ q.2.length + j = cs.length + q.1 ∧ j < q.1 ∧ tk q.1 ≠ 42 ∧ tk q.1 ≠ 47 ∧ tk (q.1 - 1) ≠ 21 := by
  unfold prR at h
  cases hu : unR tk vl j cs with
  | inl f =>
    rw [hu] at h
    dsimp only at h
    subst h
    refine ⟨fun f2 e => ?_, fun u e => by cases e⟩
    cases e
    unfold suR
    rw [hu]
  | inr u0 =>
    rw [hu] at h
    dsimp only at h
    have hx : ∀ x, suR tk vl j cs x ↔ sR tk vl (u0.1, u0.2, 0) x := fun x => by unfold suR; rw [hu]
    cases o with
    | inl f =>
      refine ⟨fun f2 e => ?_, fun u e => by cases e⟩
      cases e
      exact (hx _).mpr (h 0)
    | inr q2 =>
      obtain ⟨a1, a2, a3, a4, a5, a6⟩ := h
      refine ⟨fun f e => (by cases e), fun u e => ?_⟩
      cases e
      exact ⟨fun x => (hx x).trans (a1 0 x), a4, a5, a2, a3, a6⟩
theorem su_end {tk vl : Nat → Int} {q : Nat × CL} (h1 : tk q.1 ≠ 42) (h2 : tk q.1 ≠ 47) (h3 : tk q.1 ≠ 43) (h4 : tk q.1 ≠ 45) : sR tk vl (q.1, q.2, 0) (.inr q) := by
  refine sR_done ?_
  unfold sstR
  dsimp only
  rw [if_neg h1, if_neg h2, if_neg (by omega), show wlR 0 = [] from rfl, List.append_nil]
theorem qR_z {T : Nat → Int} {n : Nat} {μb : ot_M} {b : Nat} {f0 h0 : Int → Int} {o : RS} {r : Int} {σ : ot_M} (h : qR T n μb b f0 h0 o r σ) : r = -1 ∨ r = 0 := by
  cases o with
  | inl f => exact Or.inl h.1
  | inr q => exact Or.inr h.1
theorem qR_no {T : Nat → Int} {n : Nat} {μb : ot_M} {b : Nat} {f0 h0 : Int → Int} {o : RS} {r : Int} {σ : ot_M} (h : qR T n μb b f0 h0 o r σ) (hr : r = -1) : ∃ f, o = .inl f ∧ qF T n μb f0 h0 f σ := by
  cases o with
  | inl f => exact ⟨f, rfl, h.2⟩
  | inr q => exact absurd (h.1.symm.trans hr) (by decide)
theorem qR_yes {T : Nat → Int} {n : Nat} {μb : ot_M} {b : Nat} {f0 h0 : Int → Int} {o : RS} {r : Int} {σ : ot_M} (h : qR T n μb b f0 h0 o r σ) (hr : r ≠ -1) : ∃ q, o = .inr q ∧ qS T n μb b f0 h0 q σ := by
  cases o with
  | inl f => exact absurd h.1 hr
  | inr q => exact ⟨q, rfl, h.2⟩
set_option maxRecDepth 100000 in
set_option maxHeartbeats 1000000 in
theorem q_readSum (l : Launch) (g : ot_G) (ln : Nat) (ext : ot_L) (μ : ot_M) (T : Nat → Int) (n : Nat) (μb : ot_M) (b : Nat) (f0 h0 : Int → Int) (hg : qG T n μb) (q : Nat × CL) (hs : qS T n μb b f0 h0 q μ) (hroom : b + q.2.length ≤ q.1)  : ot_C l g yX10_readSum cX10_readSum 2 (some .int) 6 0 0 [.inr 60] (LL ln ext) μ (ot_pi (fun r L2 μ2 => L2 = LL ln ext ∧ ∃ o, suR (tkT T n) (vlT T n) q.1 q.2 o ∧ qR T n μb b f0 h0 o r μ2 ∧ (∀ u, o = .inr u → u.2.length + q.1 = q.2.length + u.1 ∧ q.1 < u.1))) := by
  refine ot_enter (by decide) (Nat.le_of_ble_eq_true rfl) ?_
  intro p e s m args below meth c X hr
  obtain ⟨gT, gT2, gn, gt, gw⟩ := id hg
  have h29 := hs.2.2.2.2.2.1
  have h21 := hs.2.2.2.2.1
  have htq := hs.2.2.2.1
  have h20 := tqR_20 htq
  have hpn := psN_le (T := T) (n := n) q.1
  refine tt_aload_n X rfl dX10_readSum_0 ?_
  refine tt_vi X rfl mX10_190 (q_readProduct l g ln ext _ T n μb b f0 h0 hg q hs hroom) (k_60 _ _) ⟨_, rfl, rfl⟩ rfl rfl (Nat.le_of_ble_eq_true rfl) (by decide) (by decide) (by decide) dX10_readSum_1 (fun z1 L1 μ1 hp => ?_)
  obtain ⟨rfl, o1, ho1, hq1⟩ := hp
  have hz1 := qR_z hq1
  refine tt_iconst X dX10_readSum_4 ?_
  refine tt_icmp_ne X 10 (by first | omega | (simp (disch := decide) only [ot_rd, ot_rs, ot_rf, ot_ucd, ot_ucs]; omega)) dX10_readSum_5 (by decide) (fun b5 => ?_) (fun b5 => ?_)
  · have hf1 := su_first ho1
    obtain ⟨u, rfl, hs10⟩ := qR_yes hq1 (by omega)
    refine tt_loc [(0, _)] ⟨rfl, trivial⟩ ?_
    refine tt_loop (α := ot_M × (Nat × CL)) (fun ((σ, q1)) => n - psN T n q1.1) (fun ((σ, q1)) => qS T n μb b f0 h0 q1 σ ∧ (∀ x, suR (tkT T n) (vlT T n) q.1 q.2 x ↔ sR (tkT T n) (vlT T n) (q1.1, q1.2, 0) x) ∧ q1.2.length + q.1 = q.2.length + q1.1 ∧ q.1 < q1.1 ∧ tkT T n q1.1 ≠ 42 ∧ tkT T n q1.1 ≠ 47 ∧ tkT T n (q1.1 - 1) ≠ 21) (fun ((σ, q1)) => σ) (fun ((σ, q1)) => [(0, .inr 60)]) (μ1, u) ⟨hs10, (hf1.2 u rfl).1, (hf1.2 u rfl).2.1, (hf1.2 u rfl).2.2.1, (hf1.2 u rfl).2.2.2⟩ ?_
    intro a hI ih
    obtain ⟨σ, q1⟩ := a
    try dsimp only at hI ih ⊢
    replace hI : qS T n μb b f0 h0 q1 σ ∧ (∀ x, suR (tkT T n) (vlT T n) q.1 q.2 x ↔ sR (tkT T n) (vlT T n) (q1.1, q1.2, 0) x) ∧ q1.2.length + q.1 = q.2.length + q1.1 ∧ q.1 < q1.1 ∧ tkT T n q1.1 ≠ 42 ∧ tkT T n q1.1 ≠ 47 ∧ tkT T n (q1.1 - 1) ≠ 21 := hI
    have htq1 := hI.1.2.2.2.1
    have h201 := tqR_20 htq1
    have h211 := hI.1.2.2.2.2.1
    have k43 := tq_sign htq1 43 (by omega)
    have k45 := tq_sign htq1 45 (by omega)
    have etk : tkT T n q1.1 = tkN T n (psN T n q1.1) := rfl
    refine tt_aload_n X rfl dX10_readSum_10 ?_
    refine tt_bipush X (by decide) dX10_readSum_11 ?_
    refine tt_vi X rfl mX10_187 (q_isSign l g ln ext _ 43 (by omega) (by have := tqR_20 hI.1.2.2.2.1; omega) (by have := hI.1.2.2.2.2.1; omega)) (k_60 _ _) ⟨_, rfl, rfl⟩ rfl rfl (Nat.le_of_ble_eq_true rfl) (by decide) (by decide) (by decide) dX10_readSum_13 (fun z13 L13 μ13 hp => ?_)
    obtain ⟨rfl, e13, hz13⟩ := hp
    replace e13 := e13.symm
    subst e13
    try simp (disch := decide) only [ot_rd, ot_rs, ot_rf, ot_ucd, ot_ucs] at hz13
    refine tt_if_ne X 28 (by rw [hz13]; split <;> omega) dX10_readSum_16 (by decide) (fun b16 => ?_) (fun b16 => ?_)
    · have ht4 : tkT T n q1.1 = 43 ∨ tkT T n q1.1 = 45 := by
        first
          | exact Or.inl (k43.mp (Classical.byContradiction fun w => by rw [if_neg w] at hz13; omega))
          | exact Or.inr (k45.mp (Classical.byContradiction fun w => by rw [if_neg w] at hz22; omega))
      have hlt1 : psN T n q1.1 < n := tk_lt_n (by omega)
      have hix := psN_idx hlt1
      have hvq : σ 60 21 = tkT T n q1.1 := by
        rcases ht4 with w | w
        · rw [w]; exact (k43.mpr w).2
        · rw [w]; exact (k45.mpr w).2
      refine tt_join1 42 [.inl (if tkT T n q1.1 = 43 then 2 else 3)] ?_ (fun J42 => ?_)
      · refine tt_istore_n X dX10_readSum_42 (by decide) ?_
        refine tt_aload_n X rfl dX10_readSum_43 ?_
        refine tt_vv X rfl mX10_180 (q_reads l g ln ext _ (spT T n _) hI.1.2.1 T n (by rw [hI.1.1.1 72 (by decide) (by decide) (by decide)]; exact gT) gT2 gn (by rw [hI.1.1.2 17 (by decide) (by decide) (by decide) (by decide) (by decide) (by decide) (by decide)]; exact gt) (spT_le (psN_le _)) (by rw [hI.1.1.1 73 (by decide) (by decide) (by decide)]; exact gw)) (k_60 _ _) ⟨_, rfl, rfl⟩ rfl rfl (Nat.le_of_ble_eq_true rfl) (by decide) (by decide) (by decide) dX10_readSum_44 (fun L44 μ44 hp => ?_)
        obtain ⟨rfl, sp44, tk44, vl44, e44, hsp44, ht44, hv44⟩ := hp
        have hs44 := qS_reads hI.1 (hlt1) e44 hsp44 ht44 hv44
        refine tt_aload_n X rfl dX10_readSum_47 ?_
        refine tt_vi X rfl mX10_190 (q_readProduct l g ln ext _ T n μb b f0 h0 hg (q1.1 + 1, q1.2) hs44 (by show b + q1.2.length ≤ q1.1 + 1; omega)) (k_60 _ _) ⟨_, rfl, rfl⟩ rfl rfl (Nat.le_of_ble_eq_true rfl) (by decide) (by decide) (by decide) dX10_readSum_48 (fun z48 L48 μ48 hp => ?_)
        obtain ⟨rfl, o2, ho2, hq2⟩ := hp
        have hz2 := qR_z hq2
        refine tt_iconst X dX10_readSum_51 ?_
        refine tt_icmp_ne X 57 (by first | omega | (simp (disch := decide) only [ot_rd, ot_rs, ot_rf, ot_ucd, ot_ucs]; omega)) dX10_readSum_52 (by decide) (fun b52 => ?_) (fun b52 => ?_)
        · obtain ⟨u2, hu2, hs57⟩ := qR_yes hq2 (by omega)
          have hsp := (su_pr ht4 ho2).2 u2 hu2
          have hix2 : u2.1 ≤ 400 := by
            have hd := tk_lt_n hsp.2.2.2.2.2
            have := psN_idx hd
            omega
          refine tt_aload_n X rfl dX10_readSum_57 ?_
          refine tt_iload_n X rfl dX10_readSum_58 ?_
          refine tt_iconst X dX10_readSum_59 ?_
          refine tt_vv X rfl mX10_176 (q_emits l g ln ext _ _ _ (by rw [hs57.2.2.2.2.2.1]; omega)) (k_60 _ _) ⟨_, rfl, rfl⟩ rfl rfl (Nat.le_of_ble_eq_true rfl) (by decide) (by decide) (by decide) dX10_readSum_60 (fun L60 μ60 hp => ?_)
          obtain ⟨rfl, e60⟩ := hp
          have hs60 := qS_emit (x := ((if tkT T n q1.1 = 43 then 2 else 3), 0)) hs57 e60
          refine tt_goto X 10 dX10_readSum_63 (by decide) ?_
          refine tt_loc [(0, _)] ⟨rfl, trivial⟩ ?_
          have hps := psN_lt2 hlt1 (show q1.1 < u2.1 by omega)
          refine ih (_, (u2.1, u2.2 ++ [((if tkT T n q1.1 = 43 then 2 else 3), 0)])) ⟨hs60, fun x => (hI.2.1 x).trans (hsp.1 x), ?_, by show q.1 < u2.1; omega, hsp.2.2.2⟩ (by show n - psN T n u2.1 < n - psN T n q1.1; omega)
          show (u2.2 ++ _).length + q.1 = q.2.length + u2.1
          rw [List.length_append]
          show u2.2.length + 1 + q.1 = _
          omega
        · refine tt_iconst X dX10_readSum_55 ?_
          refine tt_iret X ⟨hr.1, hr.2.1⟩ (by decide) (by decide) dX10_readSum_56 ?_
          refine ⟨rfl, ?_⟩
          obtain ⟨f, rfl, hqf⟩ := qR_no hq2 (by omega)
          exact ⟨.inl f, (hI.2.1 _).mpr ((su_pr ht4 ho2).1 f rfl), ⟨rfl, hqf⟩, fun u e => by cases e⟩
      · have ht4 : tkT T n q1.1 = 43 ∨ tkT T n q1.1 = 45 := by
          first
            | exact Or.inl (k43.mp (Classical.byContradiction fun w => by rw [if_neg w] at hz13; omega))
            | exact Or.inr (k45.mp (Classical.byContradiction fun w => by rw [if_neg w] at hz22; omega))
        have hlt1 : psN T n q1.1 < n := tk_lt_n (by omega)
        have hix := psN_idx hlt1
        have hvq : σ 60 21 = tkT T n q1.1 := by
          rcases ht4 with w | w
          · rw [w]; exact (k43.mpr w).2
          · rw [w]; exact (k45.mpr w).2
        refine tt_aload_n X rfl dX10_readSum_28 ?_
        refine tt_geti X fX10_148 (k_60 _ _) (by decide) (Or.inl rfl) dX10_readSum_29 ?_
        try simp (disch := decide) only [ot_rd, ot_rs, ot_rf, ot_ucd, ot_ucs]
        refine tt_bipush X (by decide) dX10_readSum_32 ?_
        refine tt_icmp_ne X 41 (by first | omega | (simp (disch := decide) only [ot_rd, ot_rs, ot_rf, ot_ucd, ot_ucs]; omega)) dX10_readSum_34 (by decide) (fun b34 => ?_) (fun b34 => ?_)
        · refine tt_iconst X dX10_readSum_41 ?_
          refine tt_top (show _ = (if tkT T n q1.1 = 43 then (2 : Int) else 3) by first | (rw [if_pos (show tkT T n q1.1 = 43 by omega)]; done) | (rw [if_neg (show ¬ tkT T n q1.1 = 43 by omega)]; done)) ?_
          exact J42
        · refine tt_iconst X dX10_readSum_37 ?_
          refine tt_goto X 42 dX10_readSum_38 (by decide) ?_
          refine tt_top (show _ = (if tkT T n q1.1 = 43 then (2 : Int) else 3) by first | (rw [if_pos (show tkT T n q1.1 = 43 by omega)]; done) | (rw [if_neg (show ¬ tkT T n q1.1 = 43 by omega)]; done)) ?_
          exact J42
    · refine tt_aload_n X rfl dX10_readSum_19 ?_
      refine tt_bipush X (by decide) dX10_readSum_20 ?_
      refine tt_vi X rfl mX10_187 (q_isSign l g ln ext _ 45 (by omega) (by have := tqR_20 hI.1.2.2.2.1; omega) (by have := hI.1.2.2.2.2.1; omega)) (k_60 _ _) ⟨_, rfl, rfl⟩ rfl rfl (Nat.le_of_ble_eq_true rfl) (by decide) (by decide) (by decide) dX10_readSum_22 (fun z22 L22 μ22 hp => ?_)
      obtain ⟨rfl, e22, hz22⟩ := hp
      replace e22 := e22.symm
      subst e22
      try simp (disch := decide) only [ot_rd, ot_rs, ot_rf, ot_ucd, ot_ucs] at hz22
      refine tt_if_eq X 66 (by rw [hz22]; split <;> omega) dX10_readSum_25 (by decide) (fun b25 => ?_) (fun b25 => ?_)
      · refine tt_iconst X dX10_readSum_66 ?_
        refine tt_iret X ⟨hr.1, hr.2.1⟩ (by decide) (by decide) dX10_readSum_67 ?_
        refine ⟨rfl, .inr q1, ?_, ⟨rfl, hI.1⟩, fun u e => by cases e; exact ⟨hI.2.2.1, hI.2.2.2.1⟩⟩
        have n43 : tkT T n q1.1 ≠ 43 := fun h => by rw [if_pos (k43.mpr h)] at hz13; omega
        have n45 : tkT T n q1.1 ≠ 45 := fun h => by rw [if_pos (k45.mpr h)] at hz22; omega
        exact (hI.2.1 _).mpr (su_end hI.2.2.2.2.1 hI.2.2.2.2.2.1 n43 n45)
      · have ht4 : tkT T n q1.1 = 43 ∨ tkT T n q1.1 = 45 := by
          first
            | exact Or.inl (k43.mp (Classical.byContradiction fun w => by rw [if_neg w] at hz13; omega))
            | exact Or.inr (k45.mp (Classical.byContradiction fun w => by rw [if_neg w] at hz22; omega))
        have hlt1 : psN T n q1.1 < n := tk_lt_n (by omega)
        have hix := psN_idx hlt1
        have hvq : σ 60 21 = tkT T n q1.1 := by
          rcases ht4 with w | w
          · rw [w]; exact (k43.mpr w).2
          · rw [w]; exact (k45.mpr w).2
        refine tt_join1 42 [.inl (if tkT T n q1.1 = 43 then 2 else 3)] ?_ (fun J42 => ?_)
        · refine tt_istore_n X dX10_readSum_42 (by decide) ?_
          refine tt_aload_n X rfl dX10_readSum_43 ?_
          refine tt_vv X rfl mX10_180 (q_reads l g ln ext _ (spT T n _) hI.1.2.1 T n (by rw [hI.1.1.1 72 (by decide) (by decide) (by decide)]; exact gT) gT2 gn (by rw [hI.1.1.2 17 (by decide) (by decide) (by decide) (by decide) (by decide) (by decide) (by decide)]; exact gt) (spT_le (psN_le _)) (by rw [hI.1.1.1 73 (by decide) (by decide) (by decide)]; exact gw)) (k_60 _ _) ⟨_, rfl, rfl⟩ rfl rfl (Nat.le_of_ble_eq_true rfl) (by decide) (by decide) (by decide) dX10_readSum_44 (fun L44 μ44 hp => ?_)
          obtain ⟨rfl, sp44, tk44, vl44, e44, hsp44, ht44, hv44⟩ := hp
          have hs44 := qS_reads hI.1 (hlt1) e44 hsp44 ht44 hv44
          refine tt_aload_n X rfl dX10_readSum_47 ?_
          refine tt_vi X rfl mX10_190 (q_readProduct l g ln ext _ T n μb b f0 h0 hg (q1.1 + 1, q1.2) hs44 (by show b + q1.2.length ≤ q1.1 + 1; omega)) (k_60 _ _) ⟨_, rfl, rfl⟩ rfl rfl (Nat.le_of_ble_eq_true rfl) (by decide) (by decide) (by decide) dX10_readSum_48 (fun z48 L48 μ48 hp => ?_)
          obtain ⟨rfl, o2, ho2, hq2⟩ := hp
          have hz2 := qR_z hq2
          refine tt_iconst X dX10_readSum_51 ?_
          refine tt_icmp_ne X 57 (by first | omega | (simp (disch := decide) only [ot_rd, ot_rs, ot_rf, ot_ucd, ot_ucs]; omega)) dX10_readSum_52 (by decide) (fun b52 => ?_) (fun b52 => ?_)
          · obtain ⟨u2, hu2, hs57⟩ := qR_yes hq2 (by omega)
            have hsp := (su_pr ht4 ho2).2 u2 hu2
            have hix2 : u2.1 ≤ 400 := by
              have hd := tk_lt_n hsp.2.2.2.2.2
              have := psN_idx hd
              omega
            refine tt_aload_n X rfl dX10_readSum_57 ?_
            refine tt_iload_n X rfl dX10_readSum_58 ?_
            refine tt_iconst X dX10_readSum_59 ?_
            refine tt_vv X rfl mX10_176 (q_emits l g ln ext _ _ _ (by rw [hs57.2.2.2.2.2.1]; omega)) (k_60 _ _) ⟨_, rfl, rfl⟩ rfl rfl (Nat.le_of_ble_eq_true rfl) (by decide) (by decide) (by decide) dX10_readSum_60 (fun L60 μ60 hp => ?_)
            obtain ⟨rfl, e60⟩ := hp
            have hs60 := qS_emit (x := ((if tkT T n q1.1 = 43 then 2 else 3), 0)) hs57 e60
            refine tt_goto X 10 dX10_readSum_63 (by decide) ?_
            refine tt_loc [(0, _)] ⟨rfl, trivial⟩ ?_
            have hps := psN_lt2 hlt1 (show q1.1 < u2.1 by omega)
            refine ih (_, (u2.1, u2.2 ++ [((if tkT T n q1.1 = 43 then 2 else 3), 0)])) ⟨hs60, fun x => (hI.2.1 x).trans (hsp.1 x), ?_, by show q.1 < u2.1; omega, hsp.2.2.2⟩ (by show n - psN T n u2.1 < n - psN T n q1.1; omega)
            show (u2.2 ++ _).length + q.1 = q.2.length + u2.1
            rw [List.length_append]
            show u2.2.length + 1 + q.1 = _
            omega
          · refine tt_iconst X dX10_readSum_55 ?_
            refine tt_iret X ⟨hr.1, hr.2.1⟩ (by decide) (by decide) dX10_readSum_56 ?_
            refine ⟨rfl, ?_⟩
            obtain ⟨f, rfl, hqf⟩ := qR_no hq2 (by omega)
            exact ⟨.inl f, (hI.2.1 _).mpr ((su_pr ht4 ho2).1 f rfl), ⟨rfl, hqf⟩, fun u e => by cases e⟩
        · have ht4 : tkT T n q1.1 = 43 ∨ tkT T n q1.1 = 45 := by
            first
              | exact Or.inl (k43.mp (Classical.byContradiction fun w => by rw [if_neg w] at hz13; omega))
              | exact Or.inr (k45.mp (Classical.byContradiction fun w => by rw [if_neg w] at hz22; omega))
          have hlt1 : psN T n q1.1 < n := tk_lt_n (by omega)
          have hix := psN_idx hlt1
          have hvq : σ 60 21 = tkT T n q1.1 := by
            rcases ht4 with w | w
            · rw [w]; exact (k43.mpr w).2
            · rw [w]; exact (k45.mpr w).2
          refine tt_aload_n X rfl dX10_readSum_28 ?_
          refine tt_geti X fX10_148 (k_60 _ _) (by decide) (Or.inl rfl) dX10_readSum_29 ?_
          try simp (disch := decide) only [ot_rd, ot_rs, ot_rf, ot_ucd, ot_ucs]
          refine tt_bipush X (by decide) dX10_readSum_32 ?_
          refine tt_icmp_ne X 41 (by first | omega | (simp (disch := decide) only [ot_rd, ot_rs, ot_rf, ot_ucd, ot_ucs]; omega)) dX10_readSum_34 (by decide) (fun b34 => ?_) (fun b34 => ?_)
          · refine tt_iconst X dX10_readSum_41 ?_
            refine tt_top (show _ = (if tkT T n q1.1 = 43 then (2 : Int) else 3) by first | (rw [if_pos (show tkT T n q1.1 = 43 by omega)]; done) | (rw [if_neg (show ¬ tkT T n q1.1 = 43 by omega)]; done)) ?_
            exact J42
          · refine tt_iconst X dX10_readSum_37 ?_
            refine tt_goto X 42 dX10_readSum_38 (by decide) ?_
            refine tt_top (show _ = (if tkT T n q1.1 = 43 then (2 : Int) else 3) by first | (rw [if_pos (show tkT T n q1.1 = 43 by omega)]; done) | (rw [if_neg (show ¬ tkT T n q1.1 = 43 by omega)]; done)) ?_
            exact J42
  · refine tt_iconst X dX10_readSum_8 ?_
    refine tt_iret X ⟨hr.1, hr.2.1⟩ (by decide) (by decide) dX10_readSum_9 ?_
    refine ⟨rfl, ?_⟩
    obtain ⟨f, rfl, hqf⟩ := qR_no hq1 (by omega)
    exact ⟨.inl f, (su_first ho1).1 f rfl, ⟨rfl, hqf⟩, fun u e => by cases e⟩

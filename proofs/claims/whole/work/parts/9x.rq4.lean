/-- the last token of a sum is one -/
theorem sR_last {tk vl : Nat → Int} : ∀ n s r, itR (fun s o => o = sstR tk vl s) n s r → tk (s.1 - 1) ≠ 21 → ∀ u, r = .inr u → tk (u.1 - 1) ≠ 21
  | 0, _, _, h, _, _, _ => absurd h id
  | n + 1, s, r, h, hs, u, hu => by
    rcases h with h | ⟨s2, h, h2⟩
    · subst hu
      unfold sstR at h
      by_cases w1 : tk s.1 = 42
      · rw [if_pos w1] at h
        cases e : unR tk vl (s.1 + 1) s.2.1 <;> rw [e] at h <;> cases h
      · rw [if_neg w1] at h
        by_cases w2 : tk s.1 = 47
        · rw [if_pos w2] at h
          split at h
          · cases h
          · split at h <;> cases h
        · rw [if_neg w2] at h
          by_cases w3 : tk s.1 = 43 ∨ tk s.1 = 45
          · rw [if_pos w3] at h
            cases e : unR tk vl (s.1 + 1) (s.2.1 ++ wlR s.2.2) <;> rw [e] at h <;> cases h
          · rw [if_neg w3] at h
            cases h
            exact hs
    · refine sR_last n s2 r h2 ?_ u hu
      unfold sstR at h
      by_cases w1 : tk s.1 = 42
      · rw [if_pos w1] at h
        cases e : unR tk vl (s.1 + 1) s.2.1 with
        | inl f => rw [e] at h; cases h
        | inr q => rw [e] at h; cases h; exact unR_tk e
      · rw [if_neg w1] at h
        by_cases w2 : tk s.1 = 47
        · rw [if_pos w2] at h
          split at h
          · cases h
          · rename_i w4
            split at h
            · cases h
            · cases h
              show tk (s.1 + 2 - 1) ≠ 21
              rw [show s.1 + 2 - 1 = s.1 + 1 by omega]
              omega
        · rw [if_neg w2] at h
          by_cases w3 : tk s.1 = 43 ∨ tk s.1 = 45
          · rw [if_pos w3] at h
            cases e : unR tk vl (s.1 + 1) (s.2.1 ++ wlR s.2.2) with
            | inl f => rw [e] at h; cases h
            | inr q => rw [e] at h; cases h; exact unR_tk e
          · rw [if_neg w3] at h
            cases h
theorem su_last {tk vl : Nat → Int} {j : Nat} {cs : CL} {u : Nat × CL} (h : suR tk vl j cs (.inr u)) : tk (u.1 - 1) ≠ 21 := by
  unfold suR at h
  cases e : unR tk vl j cs with
  | inl f => rw [e] at h; cases h
  | inr q =>
    rw [e] at h
    obtain ⟨n, hn⟩ := h
    exact sR_last n _ _ hn (unR_tk e) u rfl
set_option maxRecDepth 100000 in
set_option maxHeartbeats 1000000 in
theorem q_readCompared (l : Launch) (g : ot_G) (ln : Nat) (ext : ot_L) (μ : ot_M) (T : Nat → Int) (n : Nat) (μb : ot_M) (b : Nat) (f0 h0 : Int → Int) (hg : qG T n μb) (q : Nat × CL) (hs : qS T n μb b f0 h0 q μ) (hroom : b + q.2.length ≤ q.1)  : ot_C l g yX10_readCompared cX10_readCompared 2 (some .int) 7 0 0 [.inr 60] (LL ln ext) μ (ot_pi (fun r L2 μ2 => L2 = LL ln ext ∧ ∃ o, cmR (tkT T n) (vlT T n) q.1 q.2 o ∧ qR T n μb b f0 h0 o r μ2 ∧ (∀ u, o = .inr u → u.2.length + q.1 = q.2.length + u.1 ∧ q.1 < u.1))) := by
  refine ot_enter (by decide) (Nat.le_of_ble_eq_true rfl) ?_
  intro p e s m args below meth c X hr
  obtain ⟨gT, gT2, gn, gt, gw⟩ := id hg
  have h29 := hs.2.2.2.2.2.1
  have h21 := hs.2.2.2.2.1
  have htq := hs.2.2.2.1
  have h20 := tqR_20 htq
  have hpn := psN_le (T := T) (n := n) q.1
  refine tt_aload_n X rfl dX10_readCompared_0 ?_
  refine tt_vi X rfl mX10_193 (q_readSum l g ln ext _ T n μb b f0 h0 hg q hs hroom) (k_60 _ _) ⟨_, rfl, rfl⟩ rfl rfl (Nat.le_of_ble_eq_true rfl) (by decide) (by decide) (by decide) dX10_readCompared_1 (fun z1 L1 μ1 hp => ?_)
  obtain ⟨rfl, o1, ho1, hq1, hc1⟩ := hp
  have hz1 := qR_z hq1
  refine tt_iconst X dX10_readCompared_4 ?_
  refine tt_icmp_ne X 10 (by first | omega | (simp (disch := decide) only [ot_rd, ot_rs, ot_rf, ot_ucd, ot_ucs]; omega)) dX10_readCompared_5 (by decide) (fun b5 => ?_) (fun b5 => ?_)
  · obtain ⟨q1, rfl, hs1⟩ := qR_yes hq1 (by omega)
    have hcq := hc1 q1 rfl
    have htq1 := hs1.2.2.2.1
    have h201 := tqR_20 htq1
    have h211 := hs1.2.2.2.2.1
    have k60 := tq_sign htq1 60 (by omega)
    have k61 := tq_sign htq1 61 (by omega)
    have k62 := tq_sign htq1 62 (by omega)
    have etk : tkT T n q1.1 = tkN T n (psN T n q1.1) := rfl
    refine tt_aload_n X rfl dX10_readCompared_10 ?_
    refine tt_bipush X (by decide) dX10_readCompared_11 ?_
    refine tt_vi X rfl mX10_187 (q_isSign l g ln ext _ 60 (by omega) (by have := tqR_20 hs1.2.2.2.1; omega) (by have := hs1.2.2.2.2.1; omega)) (k_60 _ _) ⟨_, rfl, rfl⟩ rfl rfl (Nat.le_of_ble_eq_true rfl) (by decide) (by decide) (by decide) dX10_readCompared_13 (fun z13 L13 μ13 hp => ?_)
    obtain ⟨rfl, e13, hz13⟩ := hp
    replace e13 := e13.symm
    subst e13
    try simp (disch := decide) only [ot_rd, ot_rs, ot_rf, ot_ucd, ot_ucs] at hz13
    refine tt_if_ne X 43 (by rw [hz13]; split <;> omega) dX10_readCompared_16 (by decide) (fun b16 => ?_) (fun b16 => ?_)
    · have ht4 : tkT T n q1.1 = 60 ∨ tkT T n q1.1 = 61 ∨ tkT T n q1.1 = 62 := by
        first
          | exact Or.inl (k60.mp (Classical.byContradiction fun w => by rw [if_neg w] at hz13; omega))
          | exact Or.inr (Or.inl (k61.mp (Classical.byContradiction fun w => by rw [if_neg w] at hz22; omega)))
          | exact Or.inr (Or.inr (k62.mp (Classical.byContradiction fun w => by rw [if_neg w] at hz31; omega)))
      have hlt1 : psN T n q1.1 < n := tk_lt_n (by omega)
      have hix := psN_idx hlt1
      have hvq : μ1 60 21 = tkT T n q1.1 := by
        rcases ht4 with w | w | w
        · rw [w]; exact (k60.mpr w).2
        · rw [w]; exact (k61.mpr w).2
        · rw [w]; exact (k62.mpr w).2
      refine tt_join1 73 [.inl (cmC (tkT T n q1.1))] ?_ (fun J73 => ?_)
      · refine tt_istore_n X dX10_readCompared_73 (by decide) ?_
        refine tt_aload_n X rfl dX10_readCompared_74 ?_
        refine tt_vv X rfl mX10_180 (q_reads l g ln ext _ (spT T n _) hs1.2.1 T n (by rw [hs1.1.1 72 (by decide) (by decide) (by decide)]; exact gT) gT2 gn (by rw [hs1.1.2 17 (by decide) (by decide) (by decide) (by decide) (by decide) (by decide) (by decide)]; exact gt) (spT_le (psN_le _)) (by rw [hs1.1.1 73 (by decide) (by decide) (by decide)]; exact gw)) (k_60 _ _) ⟨_, rfl, rfl⟩ rfl rfl (Nat.le_of_ble_eq_true rfl) (by decide) (by decide) (by decide) dX10_readCompared_75 (fun L75 μ75 hp => ?_)
        obtain ⟨rfl, sp75, tk75, vl75, e75, hsp75, ht75, hv75⟩ := hp
        have hs75 := qS_reads hs1 (hlt1) e75 hsp75 ht75 hv75
        refine tt_aload_n X rfl dX10_readCompared_78 ?_
        refine tt_vi X rfl mX10_193 (q_readSum l g ln ext _ T n μb b f0 h0 hg (q1.1 + 1, q1.2) hs75 (by show b + q1.2.length ≤ q1.1 + 1; omega)) (k_60 _ _) ⟨_, rfl, rfl⟩ rfl rfl (Nat.le_of_ble_eq_true rfl) (by decide) (by decide) (by decide) dX10_readCompared_79 (fun z79 L79 μ79 hp => ?_)
        obtain ⟨rfl, o2, ho2, hq2, hc2⟩ := hp
        have hz2 := qR_z hq2
        refine tt_iconst X dX10_readCompared_82 ?_
        refine tt_icmp_ne X 88 (by first | omega | (simp (disch := decide) only [ot_rd, ot_rs, ot_rf, ot_ucd, ot_ucs]; omega)) dX10_readCompared_83 (by decide) (fun b83 => ?_) (fun b83 => ?_)
        · obtain ⟨u2, rfl, hs88⟩ := qR_yes hq2 (by omega)
          have hcu := hc2 u2 rfl
          dsimp only at hcu
          have hu400 : u2.1 ≤ 400 := by
            have hd := tk_lt_n (su_last ho2)
            have := psN_idx hd
            omega
          refine tt_aload_n X rfl dX10_readCompared_88 ?_
          refine tt_iload_n X rfl dX10_readCompared_89 ?_
          refine tt_iconst X dX10_readCompared_90 ?_
          refine tt_vv X rfl mX10_176 (q_emits l g ln ext _ _ _ (by rw [hs88.2.2.2.2.2.1]; omega)) (k_60 _ _) ⟨_, rfl, rfl⟩ rfl rfl (Nat.le_of_ble_eq_true rfl) (by decide) (by decide) (by decide) dX10_readCompared_91 (fun L91 μ91 hp => ?_)
          obtain ⟨rfl, e91⟩ := hp
          have hs91 := qS_emit (x := (cmC (tkT T n q1.1), 0)) hs88 e91
          refine tt_iconst X dX10_readCompared_94 ?_
          refine tt_iret X ⟨hr.1, hr.2.1⟩ (by decide) (by decide) dX10_readCompared_95 ?_
          refine ⟨rfl, .inr (u2.1, u2.2 ++ [(cmC (tkT T n q1.1), 0)]), ⟨.inr q1, ho1, ?_⟩, ⟨rfl, hs91⟩, fun u e => ?_⟩
          · show if tkT T n q1.1 = 60 ∨ tkT T n q1.1 = 61 ∨ tkT T n q1.1 = 62 then _ else _
            rw [if_pos ht4]
            exact ⟨.inr u2, ho2, rfl⟩
          · cases e
            show (u2.2 ++ _).length + q.1 = q.2.length + u2.1 ∧ q.1 < u2.1
            rw [List.length_append]
            show u2.2.length + 1 + q.1 = _ ∧ _
            omega
        · refine tt_iconst X dX10_readCompared_86 ?_
          refine tt_iret X ⟨hr.1, hr.2.1⟩ (by decide) (by decide) dX10_readCompared_87 ?_
          refine ⟨rfl, ?_⟩
          obtain ⟨f, rfl, hqf⟩ := qR_no hq2 (by omega)
          refine ⟨.inl f, ⟨.inr q1, ho1, ?_⟩, ⟨rfl, hqf⟩, fun u e => by cases e⟩
          show if tkT T n q1.1 = 60 ∨ tkT T n q1.1 = 61 ∨ tkT T n q1.1 = 62 then _ else _
          rw [if_pos ht4]
          exact ⟨.inl f, ho2, rfl⟩
      · have ht4 : tkT T n q1.1 = 60 ∨ tkT T n q1.1 = 61 ∨ tkT T n q1.1 = 62 := by
          first
            | exact Or.inl (k60.mp (Classical.byContradiction fun w => by rw [if_neg w] at hz13; omega))
            | exact Or.inr (Or.inl (k61.mp (Classical.byContradiction fun w => by rw [if_neg w] at hz22; omega)))
            | exact Or.inr (Or.inr (k62.mp (Classical.byContradiction fun w => by rw [if_neg w] at hz31; omega)))
        have hlt1 : psN T n q1.1 < n := tk_lt_n (by omega)
        have hix := psN_idx hlt1
        have hvq : μ1 60 21 = tkT T n q1.1 := by
          rcases ht4 with w | w | w
          · rw [w]; exact (k60.mpr w).2
          · rw [w]; exact (k61.mpr w).2
          · rw [w]; exact (k62.mpr w).2
        refine tt_aload_n X rfl dX10_readCompared_43 ?_
        refine tt_geti X fX10_148 (k_60 _ _) (by decide) (Or.inl rfl) dX10_readCompared_44 ?_
        try simp (disch := decide) only [ot_rd, ot_rs, ot_rf, ot_ucd, ot_ucs]
        refine tt_bipush X (by decide) dX10_readCompared_47 ?_
        refine tt_icmp_ne X 57 (by first | omega | (simp (disch := decide) only [ot_rd, ot_rs, ot_rf, ot_ucd, ot_ucs]; omega)) dX10_readCompared_49 (by decide) (fun b49 => ?_) (fun b49 => ?_)
        · refine tt_aload_n X rfl dX10_readCompared_57 ?_
          refine tt_geti X fX10_148 (k_60 _ _) (by decide) (Or.inl rfl) dX10_readCompared_58 ?_
          try simp (disch := decide) only [ot_rd, ot_rs, ot_rf, ot_ucd, ot_ucs]
          refine tt_bipush X (by decide) dX10_readCompared_61 ?_
          refine tt_icmp_ne X 71 (by first | omega | (simp (disch := decide) only [ot_rd, ot_rs, ot_rf, ot_ucd, ot_ucs]; omega)) dX10_readCompared_63 (by decide) (fun b63 => ?_) (fun b63 => ?_)
          · refine tt_bipush X (by decide) dX10_readCompared_71 ?_
            refine tt_top (show _ = cmC (tkT T n q1.1) by unfold cmC; first | (rw [if_pos (by omega)]; done) | (rw [if_neg (by omega), if_pos (by omega)]; done) | (rw [if_neg (by omega), if_neg (by omega)]; done)) ?_
            exact J73
          · refine tt_bipush X (by decide) dX10_readCompared_66 ?_
            refine tt_goto X 73 dX10_readCompared_68 (by decide) ?_
            refine tt_top (show _ = cmC (tkT T n q1.1) by unfold cmC; first | (rw [if_pos (by omega)]; done) | (rw [if_neg (by omega), if_pos (by omega)]; done) | (rw [if_neg (by omega), if_neg (by omega)]; done)) ?_
            exact J73
        · refine tt_bipush X (by decide) dX10_readCompared_52 ?_
          refine tt_goto X 73 dX10_readCompared_54 (by decide) ?_
          refine tt_top (show _ = cmC (tkT T n q1.1) by unfold cmC; first | (rw [if_pos (by omega)]; done) | (rw [if_neg (by omega), if_pos (by omega)]; done) | (rw [if_neg (by omega), if_neg (by omega)]; done)) ?_
          exact J73
    · refine tt_aload_n X rfl dX10_readCompared_19 ?_
      refine tt_bipush X (by decide) dX10_readCompared_20 ?_
      refine tt_vi X rfl mX10_187 (q_isSign l g ln ext _ 61 (by omega) (by have := tqR_20 hs1.2.2.2.1; omega) (by have := hs1.2.2.2.2.1; omega)) (k_60 _ _) ⟨_, rfl, rfl⟩ rfl rfl (Nat.le_of_ble_eq_true rfl) (by decide) (by decide) (by decide) dX10_readCompared_22 (fun z22 L22 μ22 hp => ?_)
      obtain ⟨rfl, e22, hz22⟩ := hp
      replace e22 := e22.symm
      subst e22
      try simp (disch := decide) only [ot_rd, ot_rs, ot_rf, ot_ucd, ot_ucs] at hz22
      refine tt_if_ne X 43 (by rw [hz22]; split <;> omega) dX10_readCompared_25 (by decide) (fun b25 => ?_) (fun b25 => ?_)
      · have ht4 : tkT T n q1.1 = 60 ∨ tkT T n q1.1 = 61 ∨ tkT T n q1.1 = 62 := by
          first
            | exact Or.inl (k60.mp (Classical.byContradiction fun w => by rw [if_neg w] at hz13; omega))
            | exact Or.inr (Or.inl (k61.mp (Classical.byContradiction fun w => by rw [if_neg w] at hz22; omega)))
            | exact Or.inr (Or.inr (k62.mp (Classical.byContradiction fun w => by rw [if_neg w] at hz31; omega)))
        have hlt1 : psN T n q1.1 < n := tk_lt_n (by omega)
        have hix := psN_idx hlt1
        have hvq : μ1 60 21 = tkT T n q1.1 := by
          rcases ht4 with w | w | w
          · rw [w]; exact (k60.mpr w).2
          · rw [w]; exact (k61.mpr w).2
          · rw [w]; exact (k62.mpr w).2
        refine tt_join1 73 [.inl (cmC (tkT T n q1.1))] ?_ (fun J73 => ?_)
        · refine tt_istore_n X dX10_readCompared_73 (by decide) ?_
          refine tt_aload_n X rfl dX10_readCompared_74 ?_
          refine tt_vv X rfl mX10_180 (q_reads l g ln ext _ (spT T n _) hs1.2.1 T n (by rw [hs1.1.1 72 (by decide) (by decide) (by decide)]; exact gT) gT2 gn (by rw [hs1.1.2 17 (by decide) (by decide) (by decide) (by decide) (by decide) (by decide) (by decide)]; exact gt) (spT_le (psN_le _)) (by rw [hs1.1.1 73 (by decide) (by decide) (by decide)]; exact gw)) (k_60 _ _) ⟨_, rfl, rfl⟩ rfl rfl (Nat.le_of_ble_eq_true rfl) (by decide) (by decide) (by decide) dX10_readCompared_75 (fun L75 μ75 hp => ?_)
          obtain ⟨rfl, sp75, tk75, vl75, e75, hsp75, ht75, hv75⟩ := hp
          have hs75 := qS_reads hs1 (hlt1) e75 hsp75 ht75 hv75
          refine tt_aload_n X rfl dX10_readCompared_78 ?_
          refine tt_vi X rfl mX10_193 (q_readSum l g ln ext _ T n μb b f0 h0 hg (q1.1 + 1, q1.2) hs75 (by show b + q1.2.length ≤ q1.1 + 1; omega)) (k_60 _ _) ⟨_, rfl, rfl⟩ rfl rfl (Nat.le_of_ble_eq_true rfl) (by decide) (by decide) (by decide) dX10_readCompared_79 (fun z79 L79 μ79 hp => ?_)
          obtain ⟨rfl, o2, ho2, hq2, hc2⟩ := hp
          have hz2 := qR_z hq2
          refine tt_iconst X dX10_readCompared_82 ?_
          refine tt_icmp_ne X 88 (by first | omega | (simp (disch := decide) only [ot_rd, ot_rs, ot_rf, ot_ucd, ot_ucs]; omega)) dX10_readCompared_83 (by decide) (fun b83 => ?_) (fun b83 => ?_)
          · obtain ⟨u2, rfl, hs88⟩ := qR_yes hq2 (by omega)
            have hcu := hc2 u2 rfl
            dsimp only at hcu
            have hu400 : u2.1 ≤ 400 := by
              have hd := tk_lt_n (su_last ho2)
              have := psN_idx hd
              omega
            refine tt_aload_n X rfl dX10_readCompared_88 ?_
            refine tt_iload_n X rfl dX10_readCompared_89 ?_
            refine tt_iconst X dX10_readCompared_90 ?_
            refine tt_vv X rfl mX10_176 (q_emits l g ln ext _ _ _ (by rw [hs88.2.2.2.2.2.1]; omega)) (k_60 _ _) ⟨_, rfl, rfl⟩ rfl rfl (Nat.le_of_ble_eq_true rfl) (by decide) (by decide) (by decide) dX10_readCompared_91 (fun L91 μ91 hp => ?_)
            obtain ⟨rfl, e91⟩ := hp
            have hs91 := qS_emit (x := (cmC (tkT T n q1.1), 0)) hs88 e91
            refine tt_iconst X dX10_readCompared_94 ?_
            refine tt_iret X ⟨hr.1, hr.2.1⟩ (by decide) (by decide) dX10_readCompared_95 ?_
            refine ⟨rfl, .inr (u2.1, u2.2 ++ [(cmC (tkT T n q1.1), 0)]), ⟨.inr q1, ho1, ?_⟩, ⟨rfl, hs91⟩, fun u e => ?_⟩
            · show if tkT T n q1.1 = 60 ∨ tkT T n q1.1 = 61 ∨ tkT T n q1.1 = 62 then _ else _
              rw [if_pos ht4]
              exact ⟨.inr u2, ho2, rfl⟩
            · cases e
              show (u2.2 ++ _).length + q.1 = q.2.length + u2.1 ∧ q.1 < u2.1
              rw [List.length_append]
              show u2.2.length + 1 + q.1 = _ ∧ _
              omega
          · refine tt_iconst X dX10_readCompared_86 ?_
            refine tt_iret X ⟨hr.1, hr.2.1⟩ (by decide) (by decide) dX10_readCompared_87 ?_
            refine ⟨rfl, ?_⟩
            obtain ⟨f, rfl, hqf⟩ := qR_no hq2 (by omega)
            refine ⟨.inl f, ⟨.inr q1, ho1, ?_⟩, ⟨rfl, hqf⟩, fun u e => by cases e⟩
            show if tkT T n q1.1 = 60 ∨ tkT T n q1.1 = 61 ∨ tkT T n q1.1 = 62 then _ else _
            rw [if_pos ht4]
            exact ⟨.inl f, ho2, rfl⟩
        · have ht4 : tkT T n q1.1 = 60 ∨ tkT T n q1.1 = 61 ∨ tkT T n q1.1 = 62 := by
            first
              | exact Or.inl (k60.mp (Classical.byContradiction fun w => by rw [if_neg w] at hz13; omega))
              | exact Or.inr (Or.inl (k61.mp (Classical.byContradiction fun w => by rw [if_neg w] at hz22; omega)))
              | exact Or.inr (Or.inr (k62.mp (Classical.byContradiction fun w => by rw [if_neg w] at hz31; omega)))
          have hlt1 : psN T n q1.1 < n := tk_lt_n (by omega)
          have hix := psN_idx hlt1
          have hvq : μ1 60 21 = tkT T n q1.1 := by
            rcases ht4 with w | w | w
            · rw [w]; exact (k60.mpr w).2
            · rw [w]; exact (k61.mpr w).2
            · rw [w]; exact (k62.mpr w).2
          refine tt_aload_n X rfl dX10_readCompared_43 ?_
          refine tt_geti X fX10_148 (k_60 _ _) (by decide) (Or.inl rfl) dX10_readCompared_44 ?_
          try simp (disch := decide) only [ot_rd, ot_rs, ot_rf, ot_ucd, ot_ucs]
          refine tt_bipush X (by decide) dX10_readCompared_47 ?_
          refine tt_icmp_ne X 57 (by first | omega | (simp (disch := decide) only [ot_rd, ot_rs, ot_rf, ot_ucd, ot_ucs]; omega)) dX10_readCompared_49 (by decide) (fun b49 => ?_) (fun b49 => ?_)
          · refine tt_aload_n X rfl dX10_readCompared_57 ?_
            refine tt_geti X fX10_148 (k_60 _ _) (by decide) (Or.inl rfl) dX10_readCompared_58 ?_
            try simp (disch := decide) only [ot_rd, ot_rs, ot_rf, ot_ucd, ot_ucs]
            refine tt_bipush X (by decide) dX10_readCompared_61 ?_
            refine tt_icmp_ne X 71 (by first | omega | (simp (disch := decide) only [ot_rd, ot_rs, ot_rf, ot_ucd, ot_ucs]; omega)) dX10_readCompared_63 (by decide) (fun b63 => ?_) (fun b63 => ?_)
            · refine tt_bipush X (by decide) dX10_readCompared_71 ?_
              refine tt_top (show _ = cmC (tkT T n q1.1) by unfold cmC; first | (rw [if_pos (by omega)]; done) | (rw [if_neg (by omega), if_pos (by omega)]; done) | (rw [if_neg (by omega), if_neg (by omega)]; done)) ?_
              exact J73
            · refine tt_bipush X (by decide) dX10_readCompared_66 ?_
              refine tt_goto X 73 dX10_readCompared_68 (by decide) ?_
              refine tt_top (show _ = cmC (tkT T n q1.1) by unfold cmC; first | (rw [if_pos (by omega)]; done) | (rw [if_neg (by omega), if_pos (by omega)]; done) | (rw [if_neg (by omega), if_neg (by omega)]; done)) ?_
              exact J73
          · refine tt_bipush X (by decide) dX10_readCompared_52 ?_
            refine tt_goto X 73 dX10_readCompared_54 (by decide) ?_
            refine tt_top (show _ = cmC (tkT T n q1.1) by unfold cmC; first | (rw [if_pos (by omega)]; done) | (rw [if_neg (by omega), if_pos (by omega)]; done) | (rw [if_neg (by omega), if_neg (by omega)]; done)) ?_
            exact J73
      · refine tt_aload_n X rfl dX10_readCompared_28 ?_
        refine tt_bipush X (by decide) dX10_readCompared_29 ?_
        refine tt_vi X rfl mX10_187 (q_isSign l g ln ext _ 62 (by omega) (by have := tqR_20 hs1.2.2.2.1; omega) (by have := hs1.2.2.2.2.1; omega)) (k_60 _ _) ⟨_, rfl, rfl⟩ rfl rfl (Nat.le_of_ble_eq_true rfl) (by decide) (by decide) (by decide) dX10_readCompared_31 (fun z31 L31 μ31 hp => ?_)
        obtain ⟨rfl, e31, hz31⟩ := hp
        replace e31 := e31.symm
        subst e31
        try simp (disch := decide) only [ot_rd, ot_rs, ot_rf, ot_ucd, ot_ucs] at hz31
        refine tt_if_ne X 43 (by rw [hz31]; split <;> omega) dX10_readCompared_34 (by decide) (fun b34 => ?_) (fun b34 => ?_)
        · have ht4 : tkT T n q1.1 = 60 ∨ tkT T n q1.1 = 61 ∨ tkT T n q1.1 = 62 := by
            first
              | exact Or.inl (k60.mp (Classical.byContradiction fun w => by rw [if_neg w] at hz13; omega))
              | exact Or.inr (Or.inl (k61.mp (Classical.byContradiction fun w => by rw [if_neg w] at hz22; omega)))
              | exact Or.inr (Or.inr (k62.mp (Classical.byContradiction fun w => by rw [if_neg w] at hz31; omega)))
          have hlt1 : psN T n q1.1 < n := tk_lt_n (by omega)
          have hix := psN_idx hlt1
          have hvq : μ1 60 21 = tkT T n q1.1 := by
            rcases ht4 with w | w | w
            · rw [w]; exact (k60.mpr w).2
            · rw [w]; exact (k61.mpr w).2
            · rw [w]; exact (k62.mpr w).2
          refine tt_join1 73 [.inl (cmC (tkT T n q1.1))] ?_ (fun J73 => ?_)
          · refine tt_istore_n X dX10_readCompared_73 (by decide) ?_
            refine tt_aload_n X rfl dX10_readCompared_74 ?_
            refine tt_vv X rfl mX10_180 (q_reads l g ln ext _ (spT T n _) hs1.2.1 T n (by rw [hs1.1.1 72 (by decide) (by decide) (by decide)]; exact gT) gT2 gn (by rw [hs1.1.2 17 (by decide) (by decide) (by decide) (by decide) (by decide) (by decide) (by decide)]; exact gt) (spT_le (psN_le _)) (by rw [hs1.1.1 73 (by decide) (by decide) (by decide)]; exact gw)) (k_60 _ _) ⟨_, rfl, rfl⟩ rfl rfl (Nat.le_of_ble_eq_true rfl) (by decide) (by decide) (by decide) dX10_readCompared_75 (fun L75 μ75 hp => ?_)
            obtain ⟨rfl, sp75, tk75, vl75, e75, hsp75, ht75, hv75⟩ := hp
            have hs75 := qS_reads hs1 (hlt1) e75 hsp75 ht75 hv75
            refine tt_aload_n X rfl dX10_readCompared_78 ?_
            refine tt_vi X rfl mX10_193 (q_readSum l g ln ext _ T n μb b f0 h0 hg (q1.1 + 1, q1.2) hs75 (by show b + q1.2.length ≤ q1.1 + 1; omega)) (k_60 _ _) ⟨_, rfl, rfl⟩ rfl rfl (Nat.le_of_ble_eq_true rfl) (by decide) (by decide) (by decide) dX10_readCompared_79 (fun z79 L79 μ79 hp => ?_)
            obtain ⟨rfl, o2, ho2, hq2, hc2⟩ := hp
            have hz2 := qR_z hq2
            refine tt_iconst X dX10_readCompared_82 ?_
            refine tt_icmp_ne X 88 (by first | omega | (simp (disch := decide) only [ot_rd, ot_rs, ot_rf, ot_ucd, ot_ucs]; omega)) dX10_readCompared_83 (by decide) (fun b83 => ?_) (fun b83 => ?_)
            · obtain ⟨u2, rfl, hs88⟩ := qR_yes hq2 (by omega)
              have hcu := hc2 u2 rfl
              dsimp only at hcu
              have hu400 : u2.1 ≤ 400 := by
                have hd := tk_lt_n (su_last ho2)
                have := psN_idx hd
                omega
              refine tt_aload_n X rfl dX10_readCompared_88 ?_
              refine tt_iload_n X rfl dX10_readCompared_89 ?_
              refine tt_iconst X dX10_readCompared_90 ?_
              refine tt_vv X rfl mX10_176 (q_emits l g ln ext _ _ _ (by rw [hs88.2.2.2.2.2.1]; omega)) (k_60 _ _) ⟨_, rfl, rfl⟩ rfl rfl (Nat.le_of_ble_eq_true rfl) (by decide) (by decide) (by decide) dX10_readCompared_91 (fun L91 μ91 hp => ?_)
              obtain ⟨rfl, e91⟩ := hp
              have hs91 := qS_emit (x := (cmC (tkT T n q1.1), 0)) hs88 e91
              refine tt_iconst X dX10_readCompared_94 ?_
              refine tt_iret X ⟨hr.1, hr.2.1⟩ (by decide) (by decide) dX10_readCompared_95 ?_
              refine ⟨rfl, .inr (u2.1, u2.2 ++ [(cmC (tkT T n q1.1), 0)]), ⟨.inr q1, ho1, ?_⟩, ⟨rfl, hs91⟩, fun u e => ?_⟩
              · show if tkT T n q1.1 = 60 ∨ tkT T n q1.1 = 61 ∨ tkT T n q1.1 = 62 then _ else _
                rw [if_pos ht4]
                exact ⟨.inr u2, ho2, rfl⟩
              · cases e
                show (u2.2 ++ _).length + q.1 = q.2.length + u2.1 ∧ q.1 < u2.1
                rw [List.length_append]
                show u2.2.length + 1 + q.1 = _ ∧ _
                omega
            · refine tt_iconst X dX10_readCompared_86 ?_
              refine tt_iret X ⟨hr.1, hr.2.1⟩ (by decide) (by decide) dX10_readCompared_87 ?_
              refine ⟨rfl, ?_⟩
              obtain ⟨f, rfl, hqf⟩ := qR_no hq2 (by omega)
              refine ⟨.inl f, ⟨.inr q1, ho1, ?_⟩, ⟨rfl, hqf⟩, fun u e => by cases e⟩
              show if tkT T n q1.1 = 60 ∨ tkT T n q1.1 = 61 ∨ tkT T n q1.1 = 62 then _ else _
              rw [if_pos ht4]
              exact ⟨.inl f, ho2, rfl⟩
          · have ht4 : tkT T n q1.1 = 60 ∨ tkT T n q1.1 = 61 ∨ tkT T n q1.1 = 62 := by
              first
                | exact Or.inl (k60.mp (Classical.byContradiction fun w => by rw [if_neg w] at hz13; omega))
                | exact Or.inr (Or.inl (k61.mp (Classical.byContradiction fun w => by rw [if_neg w] at hz22; omega)))
                | exact Or.inr (Or.inr (k62.mp (Classical.byContradiction fun w => by rw [if_neg w] at hz31; omega)))
            have hlt1 : psN T n q1.1 < n := tk_lt_n (by omega)
            have hix := psN_idx hlt1
            have hvq : μ1 60 21 = tkT T n q1.1 := by
              rcases ht4 with w | w | w
              · rw [w]; exact (k60.mpr w).2
              · rw [w]; exact (k61.mpr w).2
              · rw [w]; exact (k62.mpr w).2
            refine tt_aload_n X rfl dX10_readCompared_43 ?_
            refine tt_geti X fX10_148 (k_60 _ _) (by decide) (Or.inl rfl) dX10_readCompared_44 ?_
            try simp (disch := decide) only [ot_rd, ot_rs, ot_rf, ot_ucd, ot_ucs]
            refine tt_bipush X (by decide) dX10_readCompared_47 ?_
            refine tt_icmp_ne X 57 (by first | omega | (simp (disch := decide) only [ot_rd, ot_rs, ot_rf, ot_ucd, ot_ucs]; omega)) dX10_readCompared_49 (by decide) (fun b49 => ?_) (fun b49 => ?_)
            · refine tt_aload_n X rfl dX10_readCompared_57 ?_
              refine tt_geti X fX10_148 (k_60 _ _) (by decide) (Or.inl rfl) dX10_readCompared_58 ?_
              try simp (disch := decide) only [ot_rd, ot_rs, ot_rf, ot_ucd, ot_ucs]
              refine tt_bipush X (by decide) dX10_readCompared_61 ?_
              refine tt_icmp_ne X 71 (by first | omega | (simp (disch := decide) only [ot_rd, ot_rs, ot_rf, ot_ucd, ot_ucs]; omega)) dX10_readCompared_63 (by decide) (fun b63 => ?_) (fun b63 => ?_)
              · refine tt_bipush X (by decide) dX10_readCompared_71 ?_
                refine tt_top (show _ = cmC (tkT T n q1.1) by unfold cmC; first | (rw [if_pos (by omega)]; done) | (rw [if_neg (by omega), if_pos (by omega)]; done) | (rw [if_neg (by omega), if_neg (by omega)]; done)) ?_
                exact J73
              · refine tt_bipush X (by decide) dX10_readCompared_66 ?_
                refine tt_goto X 73 dX10_readCompared_68 (by decide) ?_
                refine tt_top (show _ = cmC (tkT T n q1.1) by unfold cmC; first | (rw [if_pos (by omega)]; done) | (rw [if_neg (by omega), if_pos (by omega)]; done) | (rw [if_neg (by omega), if_neg (by omega)]; done)) ?_
                exact J73
            · refine tt_bipush X (by decide) dX10_readCompared_52 ?_
              refine tt_goto X 73 dX10_readCompared_54 (by decide) ?_
              refine tt_top (show _ = cmC (tkT T n q1.1) by unfold cmC; first | (rw [if_pos (by omega)]; done) | (rw [if_neg (by omega), if_pos (by omega)]; done) | (rw [if_neg (by omega), if_neg (by omega)]; done)) ?_
              exact J73
        · refine tt_aload_n X rfl dX10_readCompared_37 ?_
          refine tt_iconst X dX10_readCompared_38 ?_
          refine tt_vi X rfl mX10_173 (q_errs l g ln ext _ _) (k_60 _ _) ⟨_, rfl, rfl⟩ rfl rfl (Nat.le_of_ble_eq_true rfl) (by decide) (by decide) (by decide) dX10_readCompared_39 (fun z39 L39 μ39 hp => ?_)
          obtain ⟨rfl, e39, hz39⟩ := hp
          have hs39 := qS_err hs1 e39
          try simp (disch := decide) only [ot_rd, ot_rs, ot_rf, ot_ucd, ot_ucs] at hz39
          refine tt_iret X ⟨hr.1, hr.2.1⟩ (by decide) (by decide) dX10_readCompared_42 ?_
          refine ⟨rfl, .inl (1, q1.1), ⟨.inr q1, ho1, ?_⟩, ⟨hz39, hs39⟩, fun u e => by cases e⟩
          show if tkT T n q1.1 = 60 ∨ tkT T n q1.1 = 61 ∨ tkT T n q1.1 = 62 then _ else _
          have n60 : tkT T n q1.1 ≠ 60 := fun h => by rw [if_pos (k60.mpr h)] at hz13; omega
          have n61 : tkT T n q1.1 ≠ 61 := fun h => by rw [if_pos (k61.mpr h)] at hz22; omega
          have n62 : tkT T n q1.1 ≠ 62 := fun h => by rw [if_pos (k62.mpr h)] at hz31; omega
          rw [if_neg (by omega)]
  · refine tt_iconst X dX10_readCompared_8 ?_
    refine tt_iret X ⟨hr.1, hr.2.1⟩ (by decide) (by decide) dX10_readCompared_9 ?_
    refine ⟨rfl, ?_⟩
    obtain ⟨f, rfl, hqf⟩ := qR_no hq1 (by omega)
    exact ⟨.inl f, ⟨.inl f, ho1, rfl⟩, ⟨rfl, hqf⟩, fun u e => by cases e⟩

/-- one line of the law -/
def lnS (tk vl : Nat → Int) (j : Nat) (n : Int) (o : RS) : Prop :=
  if tk j ≠ 0 ∧ tk j ≠ 1 then o = .inl (1, j) else if 16 ≤ n then o = .inl (3, j) else if tk (j + 1) = 2 then (∃ r, bR tk vl (true, j + 2, [], []) r ∧ match r with
      | .inl f => o = .inl f
      | .inr q => if tk q.1 = 59 then o = .inr (q.1 + 1, q.2) else o = .inl (1, q.1))
  else if tk (j + 1) = 59 then o = .inr (j + 2, []) else o = .inl (1, j + 1)
theorem lnS_det {tk vl : Nat → Int} {j : Nat} {n : Int} {a b : RS} (h1 : lnS tk vl j n a) (h2 : lnS tk vl j n b) : a = b := by
  unfold lnS at h1 h2
  by_cases w1 : tk j ≠ 0 ∧ tk j ≠ 1
  · rw [if_pos w1] at h1 h2; rw [h1, h2]
  · rw [if_neg w1] at h1 h2
    by_cases w2 : 16 ≤ n
    · rw [if_pos w2] at h1 h2; rw [h1, h2]
    · rw [if_neg w2] at h1 h2
      by_cases w3 : tk (j + 1) = 2
      · rw [if_pos w3] at h1 h2
        obtain ⟨r, q1, q2⟩ := h1
        obtain ⟨r2, p1, p2⟩ := h2
        have := bR_det q1 p1
        subst this
        cases r with
        | inl f => dsimp only at q2 p2; rw [q2, p2]
        | inr q =>
          dsimp only at q2 p2
          by_cases w4 : tk q.1 = 59
          · rw [if_pos w4] at q2 p2; rw [q2, p2]
          · rw [if_neg w4] at q2 p2; rw [q2, p2]
      · rw [if_neg w3] at h1 h2
        by_cases w4 : tk (j + 1) = 59
        · rw [if_pos w4] at h1 h2; rw [h1, h2]
        · rw [if_neg w4] at h1 h2; rw [h1, h2]
theorem al_done {tk vl : Nat → Int} {q : Nat × CL} {r2 : RS} (h : alR tk vl [] (.inr q) r2) (hn : ∀ u, r2 = .inr u → tk u.1 ≠ 4 ∧ tk u.1 ≠ 3) : bR tk vl (true, q.1, [], q.2) r2 := by
  cases r2 with
  | inl f => exact h
  | inr u =>
    have hu := hn u rfl
    refine (h.1 _).mpr (bR_done ?_)
    unfold bst
    dsimp only
    rw [if_neg (by decide), if_neg hu.1, if_neg hu.2]
    rfl
theorem rdM_up {μ : ot_M} {j t c f p i v : Int} {F : Int → Int} {k : Nat} (h1 : k ≠ 49) (h2 : k ≠ 51) : ot_up (rdM μ j t c f p F) k i v = rdM (ot_up μ k i v) j t c f p F := by
  have e49 : (49 : Nat) ≠ k := Ne.symm h1
  have e51 : (51 : Nat) ≠ k := Ne.symm h2
  refine rdM_ext (fun q w1 w2 => ?_) (fun i2 w5 w6 w7 w8 w9 => ?_) ?_ ?_ ?_ ?_ ?_ ?_
  · funext i2
    by_cases e : q = k
    · subst e; simp [ot_up, rdM_o h1 h2]
    · simp [ot_up, e, rdM_o w1 w2]
  · simp [ot_up, e49, rdM, ot_uc, w5, w6, w7, w8, w9]
  · simp [ot_up, e49, rdM, ot_uc]
  · simp [ot_up, e49, rdM, ot_uc]
  · simp [ot_up, e49, rdM, ot_uc]
  · simp [ot_up, e49, rdM, ot_uc]
  · simp [ot_up, e49, rdM, ot_uc]
  · funext i2; simp [ot_up, e51, rdM, ot_uc]
theorem v53 {μ : ot_M} {n vd t a b : Int} {tj : Int} (hvd : vd = if tj = 0 then 1 else 0) (i2 : Int) : ot_up (ot_up (ot_up μ 53 n vd) 52 a b) 50 4 t 53 i2 = μ 53 i2 ∨ ot_up (ot_up (ot_up μ 53 n vd) 52 a b) 50 4 t 53 i2 = 0 ∨ ot_up (ot_up (ot_up μ 53 n vd) 52 a b) 50 4 t 53 i2 = 1 := by
  by_cases w53 : i2 = n
  · right
    have e : ot_up (ot_up (ot_up μ 53 n vd) 52 a b) 50 4 t 53 i2 = vd := by simp [ot_up, w53]
    rw [e, hvd]
    split
    · right; rfl
    · left; rfl
  · left
    simp [ot_up, w53]
section RL
variable {μ : ot_M} {tk vl pl : Nat → Int} {K b : Nat} {F0 : Int → Int} {r : RS} {σ : ot_M}
theorem stC_up (h : stC μ tk pl K b F0 r σ) {k : Nat} (h1 : k ≠ 49) (h2 : k ≠ 51) (i v : Int) : stC (ot_up μ k i v) tk pl K b F0 r (ot_up σ k i v) := by
  cases r with
  | inl q => obtain ⟨c, F, e, h3⟩ := h; exact ⟨c, F, by rw [e, rdM_up h1 h2], h3⟩
  | inr q => obtain ⟨F, e, h3⟩ := h; exact ⟨F, by rw [e, rdM_up h1 h2], h3⟩
theorem gTk_up (hg : gTk μ K tk vl pl) {k : Nat} (h : k = 50 ∨ k = 52 ∨ k = 53) (i v : Int) : gTk (ot_up μ k i v) K tk vl pl := by
  have e : ∀ q : Nat, q ≠ 50 → q ≠ 52 → q ≠ 53 → ot_up μ k i v q = μ q := fun q a1 a2 a3 => by
    have : q ≠ k := by omega
    funext i2
    simp [ot_up, this]
  unfold gTk
  rw [e 49 (by decide) (by decide) (by decide), e 55 (by decide) (by decide) (by decide), e 56 (by decide) (by decide) (by decide), e 57 (by decide) (by decide) (by decide)]
  exact hg
theorem stC_fresh {j : Nat} {A : CL} (h : stC μ tk pl K 0 F0 (.inr (j, A)) σ) : ∃ F, cdF 0 A F ∧ stC μ tk pl K A.length F (.inr (j, [])) σ := by
  obtain ⟨F, e, h1, h2, h3, h4⟩ := h
  refine ⟨F, h3, F, ?_, h1, ?_, ?_, fun _ _ _ => rfl⟩
  · rw [e]
    show rdM μ _ _ ((0 + A.length : Nat) : Int) _ _ _ = rdM μ _ _ ((A.length + 0 : Nat) : Int) _ _ _
    rw [Nat.zero_add, Nat.add_zero]
  · show A.length + 0 ≤ 400
    have : 0 + A.length ≤ 400 := h2
    omega
  · intro i x hx
    cases hx
theorem stC_join {j : Nat} {A B : CL} {F : Int → Int} (hA : cdF 0 A F) (h : stC μ tk pl K A.length F (.inr (j, B)) σ) : stC μ tk pl K 0 F0 (.inr (j, A ++ B)) σ := by
  obtain ⟨F2, e, h1, h2, h3, h4⟩ := h
  refine ⟨F2, ?_, h1, ?_, ?_, fun i a1 a2 => by omega⟩
  · rw [e]
    show rdM μ _ _ ((A.length + B.length : Nat) : Int) _ _ _ = rdM μ _ _ ((0 + (A ++ B).length : Nat) : Int) _ _ _
    rw [List.length_append, Nat.zero_add]
  · show 0 + (A ++ B).length ≤ 400
    rw [List.length_append, Nat.zero_add]
    exact h2
  · intro i x hx
    replace hx : (A ++ B)[i]? = some x := hx
    by_cases w : i < A.length
    · rw [List.getElem?_append_left w] at hx
      rw [h4 _ (by omega) (by omega)]
      exact hA i x hx
    · rw [List.getElem?_append_right (by omega)] at hx
      have := h3 (i - A.length) x hx
      rw [show A.length + (i - A.length) = 0 + i by omega] at this
      exact this
end RL
abbrev lnQ (tk pl : Nat → Int) (K : Nat) (F0 : Int → Int) (μb μc : ot_M) (j : Nat) (A : CL) (o : RS) (μ2 : ot_M) : Prop := match o with
  | .inl f => stC μc tk pl K 0 F0 (.inl f) μ2 ∧ (∀ k, k ≠ 50 → k ≠ 52 → k ≠ 53 → μc k = μb k) ∧ (∀ i, i ≠ 4 → μc 50 i = μb 50 i) ∧ (∀ i, μc 53 i = μb 53 i ∨ μc 53 i = 0 ∨ μc 53 i = 1)
  | .inr q => μc = ot_up (ot_up (ot_up μb 53 (μb 50 4) (if tk j = 0 then 1 else 0)) 52 (μb 50 4) ((A.length + q.2.length : Nat) : Int)) 50 4 (μb 50 4 + 1) ∧ stC μc tk pl K 0 F0 (.inr (q.1, A ++ q.2)) μ2 ∧ q.2.length + j + 2 ≤ q.1
set_option maxRecDepth 100000 in
set_option maxHeartbeats 1000000 in
theorem c_readLine (l : Launch) (g : ot_G) (ln : Nat) (ext : ot_L) (μ : ot_M) (μb : ot_M) (tk vl pl : Nat → Int) (K : Nat) (F0 : Int → Int) (hg : gTk μb K tk vl pl) (j : Nat) (A : CL) (hs : stC μb tk pl K 0 F0 (.inr (j, A)) μ) (hn : 0 ≤ μb 50 4 ∧ μb 50 4 ≤ 16) (hA : A.length ≤ j) (hne : tk j ≠ 21)  : ot_C l g yX4_readLine cX4_readLine 1 none 32 0 0 [.inr 49] (LL ln ext) μ (ot_pv (fun L2 μ2 => L2 = LL ln ext ∧ ∃ o μc, lnS tk vl j (μb 50 4) o ∧ lnQ tk pl K F0 μb μc j A o μ2)) := by
  refine ot_enter (by decide) (Nat.le_of_ble_eq_true rfl) ?_
  intro p e s m args below meth c X hr
  have hK := hg.1
  have h41 := hg.2.1
  have h4 := stC_4 hs
  have h5 := stC_5 hs
  have h7 := stC_7 hs
  have h8 := stC_8 hs
  have htr := hg.2.2.2.2.2.1 j
  have h50 : μ 50 4 = μb 50 4 := by rw [stC_o hs (k := 50) (by decide) (by decide)]
  have hjK : j < K := by
    have h1 := (stC_at hs).2.1
    apply Classical.byContradiction
    intro w
    have hq : j = K := by show j = K; have : j ≤ K := h1; omega
    exact hne (by rw [hq]; exact hg.2.2.2.1)
  refine tt_aload_n X rfl dX4_readLine_0 ?_
  refine tt_geti X fX4_54 (k_49 _ _) (by decide) (Or.inl rfl) dX4_readLine_1 ?_
  refine tt_top (y := tk j) (stC_tok hs) ?_
  refine tt_if_eq X 21 (by omega) dX4_readLine_4 (by decide) (fun b4 => ?_) (fun b4 => ?_)
  · refine tt_aload_n X rfl dX4_readLine_21 ?_
    refine tt_getr X fX4_12 (k_49 _ _) (by decide) ⟨nofun, nofun⟩ rfl dX4_readLine_22 ?_
    refine tt_geti X fX4_38 (k_50 _ _) (by decide) (Or.inl rfl) dX4_readLine_25 ?_
    refine tt_top h50 ?_
    refine tt_bipush X (by decide) dX4_readLine_28 ?_
    refine tt_icmp_lt X 39 (by omega) dX4_readLine_30 (by decide) (fun b30 => ?_) (fun b30 => ?_)
    · refine tt_aload_n X rfl dX4_readLine_39 ?_
      refine tt_getr X fX4_12 (k_49 _ _) (by decide) ⟨nofun, nofun⟩ rfl dX4_readLine_40 ?_
      refine tt_getr X fX4_105 (k_50 _ _) (by decide) ⟨nofun, nofun⟩ rfl dX4_readLine_43 ?_
      
      refine tt_aload_n X rfl dX4_readLine_46 ?_
      refine tt_getr X fX4_12 (k_49 _ _) (by decide) ⟨nofun, nofun⟩ rfl dX4_readLine_47 ?_
      refine tt_geti X fX4_38 (k_50 _ _) (by decide) (Or.inl rfl) dX4_readLine_50 ?_
      refine tt_aload_n X rfl dX4_readLine_53 ?_
      refine tt_geti X fX4_54 (k_49 _ _) (by decide) (Or.inl rfl) dX4_readLine_54 ?_
      refine tt_top (y := tk j) (stC_tok hs) ?_
      refine tt_if_ne X 64 (by omega) dX4_readLine_57 (by decide) (fun b57 => ?_) (fun b57 => ?_)
      · refine tt_iconst X dX4_readLine_64 ?_
        refine tt_bastore X (k_53 _ _) (by rw [h50]; omega) (by omega) dX4_readLine_65 ?_
        obtain ⟨vd, hvd⟩ : ∃ vd : Int, vd = if tk j = 0 then 1 else 0 := ⟨_, rfl⟩
        refine tt_mem (μ' := ot_up μ 53 (μb 50 4) vd) (by first | (rw [hvd, if_pos (by omega), ← h50]; done) | (rw [hvd, if_neg (by omega), ← h50]; done)) ?_
        have hs66 := stC_up hs (k := 53) (by decide) (by decide) (μb 50 4) vd
        have hg66 := gTk_up hg (k := 53) (by omega) (μb 50 4) vd
        refine tt_aload_n X rfl dX4_readLine_66 ?_
        refine tt_vv X rfl mX4_95 (c_step l g ln ext _ (stC_8 hs66) (by have := stC_5 hs66; omega) (by have := stC_4 hs66; have := hg66.2.1; omega)) (k_49 _ _) ⟨_, rfl, rfl⟩ rfl rfl (Nat.le_of_ble_eq_true rfl) (by decide) (by decide) (by decide) dX4_readLine_67 (fun L67 μ67 hp => ?_)
        obtain ⟨rfl, e67⟩ := hp
        have hs67 : stC (ot_up μb 53 (μb 50 4) vd) tk pl K 0 F0 (.inr (j + 1, A)) μ67 := stC_step hg66 hs66 hne e67
        refine tt_aload_n X rfl dX4_readLine_70 ?_
        refine tt_geti X fX4_54 (k_49 _ _) (by decide) (Or.inl rfl) dX4_readLine_71 ?_
        try simp (disch := decide) only [ot_rd, ot_rs, ot_rf, ot_ucd, ot_ucs]
        have htk1 := hg.2.2.2.2.2.1 (j + 1)
        refine tt_top (y := tk (j + 1)) (stC_tok hs67) ?_
        refine tt_iconst X dX4_readLine_74 ?_
        refine tt_icmp_ne X 87 (by first | omega | (simp (disch := decide) only [ot_rd, ot_rs, ot_rf, ot_ucd, ot_ucs]; omega)) dX4_readLine_75 (by decide) (fun b75 => ?_) (fun b75 => ?_)
        · 
          refine tt_aload_n X rfl dX4_readLine_87 ?_
          refine tt_bipush X (by decide) dX4_readLine_88 ?_
          refine tt_vv X rfl mX4_112 (c_demand l g ln ext _ 59 (by decide) (ot_up μb 53 (μb 50 4) vd) tk vl pl K _ _ hg66 _ hs67) (k_49 _ _) ⟨_, rfl, rfl⟩ rfl rfl (Nat.le_of_ble_eq_true rfl) (by decide) (by decide) (by decide) dX4_readLine_90 (fun L90 μ90 hp => ?_)
          obtain ⟨rfl, hs90⟩ := hp
          have h7d := stC_7 hs90
          have h50d : μ90 50 4 = μb 50 4 := by rw [stC_o hs90 (k := 50) (by decide) (by decide)]; simp [ot_up]
          refine tt_aload_n X rfl dX4_readLine_93 ?_
          refine tt_getr X fX4_12 (k_49 _ _) (by decide) ⟨nofun, nofun⟩ rfl dX4_readLine_94 ?_
          refine tt_getr X fX4_115 (k_50 _ _) (by decide) ⟨nofun, nofun⟩ rfl dX4_readLine_97 ?_
          refine tt_aload_n X rfl dX4_readLine_100 ?_
          refine tt_getr X fX4_12 (k_49 _ _) (by decide) ⟨nofun, nofun⟩ rfl dX4_readLine_101 ?_
          refine tt_geti X fX4_38 (k_50 _ _) (by decide) (Or.inl rfl) dX4_readLine_104 ?_
          try simp (disch := decide) only [ot_rd, ot_rs, ot_rf, ot_ucd, ot_ucs]
          refine tt_aload_n X rfl dX4_readLine_107 ?_
          refine tt_geti X fX4_42 (k_49 _ _) (by decide) (Or.inl rfl) dX4_readLine_108 ?_
          try simp (disch := decide) only [ot_rd, ot_rs, ot_rf, ot_ucd, ot_ucs]
          refine tt_iastore X (k_52 _ _) (by first | omega | (simp (disch := decide) only [ot_rd, ot_rs, ot_rf, ot_ucd, ot_ucs]; omega)) dX4_readLine_111 ?_
          refine tt_aload_n X rfl dX4_readLine_112 ?_
          refine tt_getr X fX4_12 (k_49 _ _) (by decide) ⟨nofun, nofun⟩ rfl dX4_readLine_113 ?_
          refine tt_dup X dX4_readLine_116 ?_
          refine tt_geti X fX4_38 (k_50 _ _) (by decide) (Or.inl rfl) dX4_readLine_117 ?_
          try simp (disch := decide) only [ot_rd, ot_rs, ot_rf, ot_ucd, ot_ucs]
          refine tt_iconst X dX4_readLine_120 ?_
          refine tt_iadd X dX4_readLine_121 ?_
          refine tt_puti X fX4_38 kc_3 (k_50 _ _) (by decide) (fun q hq => by cases hq; rfl) rfl dX4_readLine_122 ?_
          refine tt_vret X ⟨hr.1, hr.2.1⟩ (by decide) (by decide) dX4_readLine_125 ?_
          refine ⟨rfl, ?_⟩
          have hsF := stC_up (stC_up hs90 (k := 52) (by decide) (by decide) (μ90 50 4) (μ90 49 7)) (k := 50) (by decide) (by decide) 4 (μ90 50 4 + 1)
          by_cases w : tk (j + 1) = 59
          · have hd : dmR tk 59 (.inr (j + 1, A)) = .inr (j + 2, A) := if_pos w
            rw [hd] at hsF
            have hlc : μ90 49 7 = ((A.length + 0 : Nat) : Int) := by
              have h90 := hs90
              rw [hd] at h90
              obtain ⟨F3, e3, _⟩ := h90
              rw [e3, rdM_7]
              show ((0 + A.length : Nat) : Int) = _
              omega
            refine ⟨.inr (j + 2, []), _, ?_, rfl, ?_, ?_⟩
            · unfold lnS
              rw [if_neg (by omega), if_neg (by omega), if_neg (by omega), if_pos w]
            · rw [h50d, hlc, hvd] at hsF
              show stC _ tk pl K 0 F0 (.inr (j + 2, A ++ [])) _
              rw [List.append_nil, h50d, hlc]
              exact hsF
            · show 0 + j + 2 ≤ j + 2
              omega
          · have hd : dmR tk 59 (.inr (j + 1, A)) = .inl (1, j + 1) := if_neg w
            rw [hd] at hsF
            refine ⟨.inl (1, j + 1), _, ?_, hsF, ?_, ?_, ?_⟩
            · unfold lnS
              rw [if_neg (by omega), if_neg (by omega), if_neg (by omega), if_neg w]
            · exact (fun k a1 a2 a3 => by funext i2; simp [ot_up, a1, a2, a3])
            · exact (fun i a1 => by simp [ot_up, a1])
            · exact (v53 hvd)
        · refine tt_aload_n X rfl dX4_readLine_78 ?_
          refine tt_vv X rfl mX4_95 (c_step l g ln ext _ (stC_8 hs67) (by have := stC_5 hs67; omega) (by have := stC_4 hs67; have := hg66.2.1; omega)) (k_49 _ _) ⟨_, rfl, rfl⟩ rfl rfl (Nat.le_of_ble_eq_true rfl) (by decide) (by decide) (by decide) dX4_readLine_79 (fun L79 μ79 hp => ?_)
          obtain ⟨rfl, e79⟩ := hp
          have hs79 : stC (ot_up μb 53 (μb 50 4) vd) tk pl K 0 F0 (.inr (j + 2, A)) μ79 := stC_step hg66 hs67 (by show tk (j + 1) ≠ 21; omega) e79
          obtain ⟨F, hcd, hs80⟩ := stC_fresh hs79
          refine tt_aload_n X rfl dX4_readLine_82 ?_
          refine tt_iconst X dX4_readLine_83 ?_
          
          refine tt_vv X rfl mX4_109 (c_readCondition l g ln ext (ot_up μb 53 (μb 50 4) vd) tk vl pl K A.length F hg66 _ [] _ rfl (fun p Q e => by cases e) hs80 (fun q hq => by cases hq; show A.length + 0 + 0 ≤ j + 2; omega)) (k_49 _ _) ⟨_, rfl, rfl⟩ rfl rfl (Nat.le_of_ble_eq_true rfl) (by decide) (by decide) (by decide) dX4_readLine_84 (fun L84 μ84 hp => ?_)
          obtain ⟨rfl, r2, hr2, hs84, hn84⟩ := hp
          
          refine tt_aload_n X rfl dX4_readLine_87 ?_
          refine tt_bipush X (by decide) dX4_readLine_88 ?_
          refine tt_vv X rfl mX4_112 (c_demand l g ln ext _ 59 (by decide) (ot_up μb 53 (μb 50 4) vd) tk vl pl K _ _ hg66 _ hs84) (k_49 _ _) ⟨_, rfl, rfl⟩ rfl rfl (Nat.le_of_ble_eq_true rfl) (by decide) (by decide) (by decide) dX4_readLine_90 (fun L90 μ90 hp => ?_)
          obtain ⟨rfl, hs90⟩ := hp
          have h7d := stC_7 hs90
          have h50d : μ90 50 4 = μb 50 4 := by rw [stC_o hs90 (k := 50) (by decide) (by decide)]; simp [ot_up]
          refine tt_aload_n X rfl dX4_readLine_93 ?_
          refine tt_getr X fX4_12 (k_49 _ _) (by decide) ⟨nofun, nofun⟩ rfl dX4_readLine_94 ?_
          refine tt_getr X fX4_115 (k_50 _ _) (by decide) ⟨nofun, nofun⟩ rfl dX4_readLine_97 ?_
          refine tt_aload_n X rfl dX4_readLine_100 ?_
          refine tt_getr X fX4_12 (k_49 _ _) (by decide) ⟨nofun, nofun⟩ rfl dX4_readLine_101 ?_
          refine tt_geti X fX4_38 (k_50 _ _) (by decide) (Or.inl rfl) dX4_readLine_104 ?_
          try simp (disch := decide) only [ot_rd, ot_rs, ot_rf, ot_ucd, ot_ucs]
          refine tt_aload_n X rfl dX4_readLine_107 ?_
          refine tt_geti X fX4_42 (k_49 _ _) (by decide) (Or.inl rfl) dX4_readLine_108 ?_
          try simp (disch := decide) only [ot_rd, ot_rs, ot_rf, ot_ucd, ot_ucs]
          refine tt_iastore X (k_52 _ _) (by first | omega | (simp (disch := decide) only [ot_rd, ot_rs, ot_rf, ot_ucd, ot_ucs]; omega)) dX4_readLine_111 ?_
          refine tt_aload_n X rfl dX4_readLine_112 ?_
          refine tt_getr X fX4_12 (k_49 _ _) (by decide) ⟨nofun, nofun⟩ rfl dX4_readLine_113 ?_
          refine tt_dup X dX4_readLine_116 ?_
          refine tt_geti X fX4_38 (k_50 _ _) (by decide) (Or.inl rfl) dX4_readLine_117 ?_
          try simp (disch := decide) only [ot_rd, ot_rs, ot_rf, ot_ucd, ot_ucs]
          refine tt_iconst X dX4_readLine_120 ?_
          refine tt_iadd X dX4_readLine_121 ?_
          refine tt_puti X fX4_38 kc_3 (k_50 _ _) (by decide) (fun q hq => by cases hq; rfl) rfl dX4_readLine_122 ?_
          refine tt_vret X ⟨hr.1, hr.2.1⟩ (by decide) (by decide) dX4_readLine_125 ?_
          refine ⟨rfl, ?_⟩
          have hsF := stC_up (stC_up hs90 (k := 52) (by decide) (by decide) (μ90 50 4) (μ90 49 7)) (k := 50) (by decide) (by decide) 4 (μ90 50 4 + 1)
          cases e1 : dmR tk 59 r2 with
          | inl f =>
            rw [e1] at hsF
            refine ⟨.inl f, _, ?_, hsF, ?_, ?_, ?_⟩
            · unfold lnS
              rw [if_neg (by omega), if_neg (by omega), if_pos (by omega)]
              refine ⟨r2, al_done hr2 hn84, ?_⟩
              cases r2 with
              | inl f2 => cases e1; rfl
              | inr q =>
                replace e1 : (if tk q.1 = 59 then (.inr (q.1 + 1, q.2) : RS) else .inl (1, q.1)) = .inl f := e1
                show if tk q.1 = 59 then _ else _
                by_cases w : tk q.1 = 59
                · rw [if_pos w] at e1; cases e1
                · rw [if_neg w] at e1 ⊢; exact e1.symm
            · exact (fun k a1 a2 a3 => by funext i2; simp [ot_up, a1, a2, a3])
            · exact (fun i a1 => by simp [ot_up, a1])
            · exact (v53 hvd)
          | inr q2 =>
            rw [e1] at hsF
            cases r2 with
            | inl f2 => cases e1
            | inr q =>
              replace e1 : (if tk q.1 = 59 then (.inr (q.1 + 1, q.2) : RS) else .inl (1, q.1)) = .inr q2 := e1
              by_cases w : tk q.1 = 59
              · rw [if_pos w] at e1
                cases e1
                have hb2 := hr2.2.1
                have hb3 := hr2.2.2
                dsimp only at hb2 hb3
                have hlc : μ90 49 7 = ((A.length + q.2.length : Nat) : Int) := by
                  have h90 := hs90
                  rw [show dmR tk 59 (.inr q) = .inr (q.1 + 1, q.2) from if_pos w] at h90
                  obtain ⟨F3, e3, _⟩ := h90
                  rw [e3, rdM_7]
                refine ⟨.inr (q.1 + 1, q.2), _, ?_, rfl, ?_, ?_⟩
                · unfold lnS
                  rw [if_neg (by omega), if_neg (by omega), if_pos (by omega)]
                  refine ⟨.inr q, al_done hr2 hn84, ?_⟩
                  show if tk q.1 = 59 then _ else _
                  rw [if_pos w]
                · rw [h50d, hlc, hvd] at hsF
                  rw [h50d, hlc]
                  exact stC_join hcd hsF
                · show q.2.length + j + 2 ≤ q.1 + 1
                  have : q.2.length + (j + 2) ≤ 0 + q.1 := hb2
                  omega
              · rw [if_neg w] at e1; cases e1
      · refine tt_iconst X dX4_readLine_60 ?_
        refine tt_goto X 65 dX4_readLine_61 (by decide) ?_
        refine tt_bastore X (k_53 _ _) (by rw [h50]; omega) (by omega) dX4_readLine_65 ?_
        obtain ⟨vd, hvd⟩ : ∃ vd : Int, vd = if tk j = 0 then 1 else 0 := ⟨_, rfl⟩
        refine tt_mem (μ' := ot_up μ 53 (μb 50 4) vd) (by first | (rw [hvd, if_pos (by omega), ← h50]; done) | (rw [hvd, if_neg (by omega), ← h50]; done)) ?_
        have hs66 := stC_up hs (k := 53) (by decide) (by decide) (μb 50 4) vd
        have hg66 := gTk_up hg (k := 53) (by omega) (μb 50 4) vd
        refine tt_aload_n X rfl dX4_readLine_66 ?_
        refine tt_vv X rfl mX4_95 (c_step l g ln ext _ (stC_8 hs66) (by have := stC_5 hs66; omega) (by have := stC_4 hs66; have := hg66.2.1; omega)) (k_49 _ _) ⟨_, rfl, rfl⟩ rfl rfl (Nat.le_of_ble_eq_true rfl) (by decide) (by decide) (by decide) dX4_readLine_67 (fun L67 μ67 hp => ?_)
        obtain ⟨rfl, e67⟩ := hp
        have hs67 : stC (ot_up μb 53 (μb 50 4) vd) tk pl K 0 F0 (.inr (j + 1, A)) μ67 := stC_step hg66 hs66 hne e67
        refine tt_aload_n X rfl dX4_readLine_70 ?_
        refine tt_geti X fX4_54 (k_49 _ _) (by decide) (Or.inl rfl) dX4_readLine_71 ?_
        try simp (disch := decide) only [ot_rd, ot_rs, ot_rf, ot_ucd, ot_ucs]
        have htk1 := hg.2.2.2.2.2.1 (j + 1)
        refine tt_top (y := tk (j + 1)) (stC_tok hs67) ?_
        refine tt_iconst X dX4_readLine_74 ?_
        refine tt_icmp_ne X 87 (by first | omega | (simp (disch := decide) only [ot_rd, ot_rs, ot_rf, ot_ucd, ot_ucs]; omega)) dX4_readLine_75 (by decide) (fun b75 => ?_) (fun b75 => ?_)
        · 
          refine tt_aload_n X rfl dX4_readLine_87 ?_
          refine tt_bipush X (by decide) dX4_readLine_88 ?_
          refine tt_vv X rfl mX4_112 (c_demand l g ln ext _ 59 (by decide) (ot_up μb 53 (μb 50 4) vd) tk vl pl K _ _ hg66 _ hs67) (k_49 _ _) ⟨_, rfl, rfl⟩ rfl rfl (Nat.le_of_ble_eq_true rfl) (by decide) (by decide) (by decide) dX4_readLine_90 (fun L90 μ90 hp => ?_)
          obtain ⟨rfl, hs90⟩ := hp
          have h7d := stC_7 hs90
          have h50d : μ90 50 4 = μb 50 4 := by rw [stC_o hs90 (k := 50) (by decide) (by decide)]; simp [ot_up]
          refine tt_aload_n X rfl dX4_readLine_93 ?_
          refine tt_getr X fX4_12 (k_49 _ _) (by decide) ⟨nofun, nofun⟩ rfl dX4_readLine_94 ?_
          refine tt_getr X fX4_115 (k_50 _ _) (by decide) ⟨nofun, nofun⟩ rfl dX4_readLine_97 ?_
          refine tt_aload_n X rfl dX4_readLine_100 ?_
          refine tt_getr X fX4_12 (k_49 _ _) (by decide) ⟨nofun, nofun⟩ rfl dX4_readLine_101 ?_
          refine tt_geti X fX4_38 (k_50 _ _) (by decide) (Or.inl rfl) dX4_readLine_104 ?_
          try simp (disch := decide) only [ot_rd, ot_rs, ot_rf, ot_ucd, ot_ucs]
          refine tt_aload_n X rfl dX4_readLine_107 ?_
          refine tt_geti X fX4_42 (k_49 _ _) (by decide) (Or.inl rfl) dX4_readLine_108 ?_
          try simp (disch := decide) only [ot_rd, ot_rs, ot_rf, ot_ucd, ot_ucs]
          refine tt_iastore X (k_52 _ _) (by first | omega | (simp (disch := decide) only [ot_rd, ot_rs, ot_rf, ot_ucd, ot_ucs]; omega)) dX4_readLine_111 ?_
          refine tt_aload_n X rfl dX4_readLine_112 ?_
          refine tt_getr X fX4_12 (k_49 _ _) (by decide) ⟨nofun, nofun⟩ rfl dX4_readLine_113 ?_
          refine tt_dup X dX4_readLine_116 ?_
          refine tt_geti X fX4_38 (k_50 _ _) (by decide) (Or.inl rfl) dX4_readLine_117 ?_
          try simp (disch := decide) only [ot_rd, ot_rs, ot_rf, ot_ucd, ot_ucs]
          refine tt_iconst X dX4_readLine_120 ?_
          refine tt_iadd X dX4_readLine_121 ?_
          refine tt_puti X fX4_38 kc_3 (k_50 _ _) (by decide) (fun q hq => by cases hq; rfl) rfl dX4_readLine_122 ?_
          refine tt_vret X ⟨hr.1, hr.2.1⟩ (by decide) (by decide) dX4_readLine_125 ?_
          refine ⟨rfl, ?_⟩
          have hsF := stC_up (stC_up hs90 (k := 52) (by decide) (by decide) (μ90 50 4) (μ90 49 7)) (k := 50) (by decide) (by decide) 4 (μ90 50 4 + 1)
          by_cases w : tk (j + 1) = 59
          · have hd : dmR tk 59 (.inr (j + 1, A)) = .inr (j + 2, A) := if_pos w
            rw [hd] at hsF
            have hlc : μ90 49 7 = ((A.length + 0 : Nat) : Int) := by
              have h90 := hs90
              rw [hd] at h90
              obtain ⟨F3, e3, _⟩ := h90
              rw [e3, rdM_7]
              show ((0 + A.length : Nat) : Int) = _
              omega
            refine ⟨.inr (j + 2, []), _, ?_, rfl, ?_, ?_⟩
            · unfold lnS
              rw [if_neg (by omega), if_neg (by omega), if_neg (by omega), if_pos w]
            · rw [h50d, hlc, hvd] at hsF
              show stC _ tk pl K 0 F0 (.inr (j + 2, A ++ [])) _
              rw [List.append_nil, h50d, hlc]
              exact hsF
            · show 0 + j + 2 ≤ j + 2
              omega
          · have hd : dmR tk 59 (.inr (j + 1, A)) = .inl (1, j + 1) := if_neg w
            rw [hd] at hsF
            refine ⟨.inl (1, j + 1), _, ?_, hsF, ?_, ?_, ?_⟩
            · unfold lnS
              rw [if_neg (by omega), if_neg (by omega), if_neg (by omega), if_neg w]
            · exact (fun k a1 a2 a3 => by funext i2; simp [ot_up, a1, a2, a3])
            · exact (fun i a1 => by simp [ot_up, a1])
            · exact (v53 hvd)
        · refine tt_aload_n X rfl dX4_readLine_78 ?_
          refine tt_vv X rfl mX4_95 (c_step l g ln ext _ (stC_8 hs67) (by have := stC_5 hs67; omega) (by have := stC_4 hs67; have := hg66.2.1; omega)) (k_49 _ _) ⟨_, rfl, rfl⟩ rfl rfl (Nat.le_of_ble_eq_true rfl) (by decide) (by decide) (by decide) dX4_readLine_79 (fun L79 μ79 hp => ?_)
          obtain ⟨rfl, e79⟩ := hp
          have hs79 : stC (ot_up μb 53 (μb 50 4) vd) tk pl K 0 F0 (.inr (j + 2, A)) μ79 := stC_step hg66 hs67 (by show tk (j + 1) ≠ 21; omega) e79
          obtain ⟨F, hcd, hs80⟩ := stC_fresh hs79
          refine tt_aload_n X rfl dX4_readLine_82 ?_
          refine tt_iconst X dX4_readLine_83 ?_
          
          refine tt_vv X rfl mX4_109 (c_readCondition l g ln ext (ot_up μb 53 (μb 50 4) vd) tk vl pl K A.length F hg66 _ [] _ rfl (fun p Q e => by cases e) hs80 (fun q hq => by cases hq; show A.length + 0 + 0 ≤ j + 2; omega)) (k_49 _ _) ⟨_, rfl, rfl⟩ rfl rfl (Nat.le_of_ble_eq_true rfl) (by decide) (by decide) (by decide) dX4_readLine_84 (fun L84 μ84 hp => ?_)
          obtain ⟨rfl, r2, hr2, hs84, hn84⟩ := hp
          
          refine tt_aload_n X rfl dX4_readLine_87 ?_
          refine tt_bipush X (by decide) dX4_readLine_88 ?_
          refine tt_vv X rfl mX4_112 (c_demand l g ln ext _ 59 (by decide) (ot_up μb 53 (μb 50 4) vd) tk vl pl K _ _ hg66 _ hs84) (k_49 _ _) ⟨_, rfl, rfl⟩ rfl rfl (Nat.le_of_ble_eq_true rfl) (by decide) (by decide) (by decide) dX4_readLine_90 (fun L90 μ90 hp => ?_)
          obtain ⟨rfl, hs90⟩ := hp
          have h7d := stC_7 hs90
          have h50d : μ90 50 4 = μb 50 4 := by rw [stC_o hs90 (k := 50) (by decide) (by decide)]; simp [ot_up]
          refine tt_aload_n X rfl dX4_readLine_93 ?_
          refine tt_getr X fX4_12 (k_49 _ _) (by decide) ⟨nofun, nofun⟩ rfl dX4_readLine_94 ?_
          refine tt_getr X fX4_115 (k_50 _ _) (by decide) ⟨nofun, nofun⟩ rfl dX4_readLine_97 ?_
          refine tt_aload_n X rfl dX4_readLine_100 ?_
          refine tt_getr X fX4_12 (k_49 _ _) (by decide) ⟨nofun, nofun⟩ rfl dX4_readLine_101 ?_
          refine tt_geti X fX4_38 (k_50 _ _) (by decide) (Or.inl rfl) dX4_readLine_104 ?_
          try simp (disch := decide) only [ot_rd, ot_rs, ot_rf, ot_ucd, ot_ucs]
          refine tt_aload_n X rfl dX4_readLine_107 ?_
          refine tt_geti X fX4_42 (k_49 _ _) (by decide) (Or.inl rfl) dX4_readLine_108 ?_
          try simp (disch := decide) only [ot_rd, ot_rs, ot_rf, ot_ucd, ot_ucs]
          refine tt_iastore X (k_52 _ _) (by first | omega | (simp (disch := decide) only [ot_rd, ot_rs, ot_rf, ot_ucd, ot_ucs]; omega)) dX4_readLine_111 ?_
          refine tt_aload_n X rfl dX4_readLine_112 ?_
          refine tt_getr X fX4_12 (k_49 _ _) (by decide) ⟨nofun, nofun⟩ rfl dX4_readLine_113 ?_
          refine tt_dup X dX4_readLine_116 ?_
          refine tt_geti X fX4_38 (k_50 _ _) (by decide) (Or.inl rfl) dX4_readLine_117 ?_
          try simp (disch := decide) only [ot_rd, ot_rs, ot_rf, ot_ucd, ot_ucs]
          refine tt_iconst X dX4_readLine_120 ?_
          refine tt_iadd X dX4_readLine_121 ?_
          refine tt_puti X fX4_38 kc_3 (k_50 _ _) (by decide) (fun q hq => by cases hq; rfl) rfl dX4_readLine_122 ?_
          refine tt_vret X ⟨hr.1, hr.2.1⟩ (by decide) (by decide) dX4_readLine_125 ?_
          refine ⟨rfl, ?_⟩
          have hsF := stC_up (stC_up hs90 (k := 52) (by decide) (by decide) (μ90 50 4) (μ90 49 7)) (k := 50) (by decide) (by decide) 4 (μ90 50 4 + 1)
          cases e1 : dmR tk 59 r2 with
          | inl f =>
            rw [e1] at hsF
            refine ⟨.inl f, _, ?_, hsF, ?_, ?_, ?_⟩
            · unfold lnS
              rw [if_neg (by omega), if_neg (by omega), if_pos (by omega)]
              refine ⟨r2, al_done hr2 hn84, ?_⟩
              cases r2 with
              | inl f2 => cases e1; rfl
              | inr q =>
                replace e1 : (if tk q.1 = 59 then (.inr (q.1 + 1, q.2) : RS) else .inl (1, q.1)) = .inl f := e1
                show if tk q.1 = 59 then _ else _
                by_cases w : tk q.1 = 59
                · rw [if_pos w] at e1; cases e1
                · rw [if_neg w] at e1 ⊢; exact e1.symm
            · exact (fun k a1 a2 a3 => by funext i2; simp [ot_up, a1, a2, a3])
            · exact (fun i a1 => by simp [ot_up, a1])
            · exact (v53 hvd)
          | inr q2 =>
            rw [e1] at hsF
            cases r2 with
            | inl f2 => cases e1
            | inr q =>
              replace e1 : (if tk q.1 = 59 then (.inr (q.1 + 1, q.2) : RS) else .inl (1, q.1)) = .inr q2 := e1
              by_cases w : tk q.1 = 59
              · rw [if_pos w] at e1
                cases e1
                have hb2 := hr2.2.1
                have hb3 := hr2.2.2
                dsimp only at hb2 hb3
                have hlc : μ90 49 7 = ((A.length + q.2.length : Nat) : Int) := by
                  have h90 := hs90
                  rw [show dmR tk 59 (.inr q) = .inr (q.1 + 1, q.2) from if_pos w] at h90
                  obtain ⟨F3, e3, _⟩ := h90
                  rw [e3, rdM_7]
                refine ⟨.inr (q.1 + 1, q.2), _, ?_, rfl, ?_, ?_⟩
                · unfold lnS
                  rw [if_neg (by omega), if_neg (by omega), if_pos (by omega)]
                  refine ⟨.inr q, al_done hr2 hn84, ?_⟩
                  show if tk q.1 = 59 then _ else _
                  rw [if_pos w]
                · rw [h50d, hlc, hvd] at hsF
                  rw [h50d, hlc]
                  exact stC_join hcd hsF
                · show q.2.length + j + 2 ≤ q.1 + 1
                  have : q.2.length + (j + 2) ≤ 0 + q.1 := hb2
                  omega
              · rw [if_neg w] at e1; cases e1
    · refine tt_aload_n X rfl dX4_readLine_33 ?_
      refine tt_iconst X dX4_readLine_34 ?_
      refine tt_vv X rfl mX4_98 (c_refuse l g ln ext _ _ (stC_8 hs) (by have := stC_5 hs; omega)) (k_49 _ _) ⟨_, rfl, rfl⟩ rfl rfl (Nat.le_of_ble_eq_true rfl) (by decide) (by decide) (by decide) dX4_readLine_35 (fun L35 μ35 hp => ?_)
      obtain ⟨rfl, e35⟩ := hp
      have hs35 := stC_ref hg hs (k := 3) (by omega) e35
      refine tt_vret X ⟨hr.1, hr.2.1⟩ (by decide) (by decide) dX4_readLine_38 ?_
      exact ⟨rfl, .inl (3, j), μb, by unfold lnS; rw [if_neg (by omega), if_pos (by omega)], hs35, fun _ _ _ _ => rfl, fun _ _ => rfl, fun _ => Or.inl rfl⟩
  · refine tt_aload_n X rfl dX4_readLine_7 ?_
    refine tt_geti X fX4_54 (k_49 _ _) (by decide) (Or.inl rfl) dX4_readLine_8 ?_
    refine tt_top (y := tk j) (stC_tok hs) ?_
    refine tt_iconst X dX4_readLine_11 ?_
    refine tt_icmp_eq X 21 (by omega) dX4_readLine_12 (by decide) (fun b12 => ?_) (fun b12 => ?_)
    · refine tt_aload_n X rfl dX4_readLine_21 ?_
      refine tt_getr X fX4_12 (k_49 _ _) (by decide) ⟨nofun, nofun⟩ rfl dX4_readLine_22 ?_
      refine tt_geti X fX4_38 (k_50 _ _) (by decide) (Or.inl rfl) dX4_readLine_25 ?_
      refine tt_top h50 ?_
      refine tt_bipush X (by decide) dX4_readLine_28 ?_
      refine tt_icmp_lt X 39 (by omega) dX4_readLine_30 (by decide) (fun b30 => ?_) (fun b30 => ?_)
      · refine tt_aload_n X rfl dX4_readLine_39 ?_
        refine tt_getr X fX4_12 (k_49 _ _) (by decide) ⟨nofun, nofun⟩ rfl dX4_readLine_40 ?_
        refine tt_getr X fX4_105 (k_50 _ _) (by decide) ⟨nofun, nofun⟩ rfl dX4_readLine_43 ?_
        
        refine tt_aload_n X rfl dX4_readLine_46 ?_
        refine tt_getr X fX4_12 (k_49 _ _) (by decide) ⟨nofun, nofun⟩ rfl dX4_readLine_47 ?_
        refine tt_geti X fX4_38 (k_50 _ _) (by decide) (Or.inl rfl) dX4_readLine_50 ?_
        refine tt_aload_n X rfl dX4_readLine_53 ?_
        refine tt_geti X fX4_54 (k_49 _ _) (by decide) (Or.inl rfl) dX4_readLine_54 ?_
        refine tt_top (y := tk j) (stC_tok hs) ?_
        refine tt_if_ne X 64 (by omega) dX4_readLine_57 (by decide) (fun b57 => ?_) (fun b57 => ?_)
        · refine tt_iconst X dX4_readLine_64 ?_
          refine tt_bastore X (k_53 _ _) (by rw [h50]; omega) (by omega) dX4_readLine_65 ?_
          obtain ⟨vd, hvd⟩ : ∃ vd : Int, vd = if tk j = 0 then 1 else 0 := ⟨_, rfl⟩
          refine tt_mem (μ' := ot_up μ 53 (μb 50 4) vd) (by first | (rw [hvd, if_pos (by omega), ← h50]; done) | (rw [hvd, if_neg (by omega), ← h50]; done)) ?_
          have hs66 := stC_up hs (k := 53) (by decide) (by decide) (μb 50 4) vd
          have hg66 := gTk_up hg (k := 53) (by omega) (μb 50 4) vd
          refine tt_aload_n X rfl dX4_readLine_66 ?_
          refine tt_vv X rfl mX4_95 (c_step l g ln ext _ (stC_8 hs66) (by have := stC_5 hs66; omega) (by have := stC_4 hs66; have := hg66.2.1; omega)) (k_49 _ _) ⟨_, rfl, rfl⟩ rfl rfl (Nat.le_of_ble_eq_true rfl) (by decide) (by decide) (by decide) dX4_readLine_67 (fun L67 μ67 hp => ?_)
          obtain ⟨rfl, e67⟩ := hp
          have hs67 : stC (ot_up μb 53 (μb 50 4) vd) tk pl K 0 F0 (.inr (j + 1, A)) μ67 := stC_step hg66 hs66 hne e67
          refine tt_aload_n X rfl dX4_readLine_70 ?_
          refine tt_geti X fX4_54 (k_49 _ _) (by decide) (Or.inl rfl) dX4_readLine_71 ?_
          try simp (disch := decide) only [ot_rd, ot_rs, ot_rf, ot_ucd, ot_ucs]
          have htk1 := hg.2.2.2.2.2.1 (j + 1)
          refine tt_top (y := tk (j + 1)) (stC_tok hs67) ?_
          refine tt_iconst X dX4_readLine_74 ?_
          refine tt_icmp_ne X 87 (by first | omega | (simp (disch := decide) only [ot_rd, ot_rs, ot_rf, ot_ucd, ot_ucs]; omega)) dX4_readLine_75 (by decide) (fun b75 => ?_) (fun b75 => ?_)
          · 
            refine tt_aload_n X rfl dX4_readLine_87 ?_
            refine tt_bipush X (by decide) dX4_readLine_88 ?_
            refine tt_vv X rfl mX4_112 (c_demand l g ln ext _ 59 (by decide) (ot_up μb 53 (μb 50 4) vd) tk vl pl K _ _ hg66 _ hs67) (k_49 _ _) ⟨_, rfl, rfl⟩ rfl rfl (Nat.le_of_ble_eq_true rfl) (by decide) (by decide) (by decide) dX4_readLine_90 (fun L90 μ90 hp => ?_)
            obtain ⟨rfl, hs90⟩ := hp
            have h7d := stC_7 hs90
            have h50d : μ90 50 4 = μb 50 4 := by rw [stC_o hs90 (k := 50) (by decide) (by decide)]; simp [ot_up]
            refine tt_aload_n X rfl dX4_readLine_93 ?_
            refine tt_getr X fX4_12 (k_49 _ _) (by decide) ⟨nofun, nofun⟩ rfl dX4_readLine_94 ?_
            refine tt_getr X fX4_115 (k_50 _ _) (by decide) ⟨nofun, nofun⟩ rfl dX4_readLine_97 ?_
            refine tt_aload_n X rfl dX4_readLine_100 ?_
            refine tt_getr X fX4_12 (k_49 _ _) (by decide) ⟨nofun, nofun⟩ rfl dX4_readLine_101 ?_
            refine tt_geti X fX4_38 (k_50 _ _) (by decide) (Or.inl rfl) dX4_readLine_104 ?_
            try simp (disch := decide) only [ot_rd, ot_rs, ot_rf, ot_ucd, ot_ucs]
            refine tt_aload_n X rfl dX4_readLine_107 ?_
            refine tt_geti X fX4_42 (k_49 _ _) (by decide) (Or.inl rfl) dX4_readLine_108 ?_
            try simp (disch := decide) only [ot_rd, ot_rs, ot_rf, ot_ucd, ot_ucs]
            refine tt_iastore X (k_52 _ _) (by first | omega | (simp (disch := decide) only [ot_rd, ot_rs, ot_rf, ot_ucd, ot_ucs]; omega)) dX4_readLine_111 ?_
            refine tt_aload_n X rfl dX4_readLine_112 ?_
            refine tt_getr X fX4_12 (k_49 _ _) (by decide) ⟨nofun, nofun⟩ rfl dX4_readLine_113 ?_
            refine tt_dup X dX4_readLine_116 ?_
            refine tt_geti X fX4_38 (k_50 _ _) (by decide) (Or.inl rfl) dX4_readLine_117 ?_
            try simp (disch := decide) only [ot_rd, ot_rs, ot_rf, ot_ucd, ot_ucs]
            refine tt_iconst X dX4_readLine_120 ?_
            refine tt_iadd X dX4_readLine_121 ?_
            refine tt_puti X fX4_38 kc_3 (k_50 _ _) (by decide) (fun q hq => by cases hq; rfl) rfl dX4_readLine_122 ?_
            refine tt_vret X ⟨hr.1, hr.2.1⟩ (by decide) (by decide) dX4_readLine_125 ?_
            refine ⟨rfl, ?_⟩
            have hsF := stC_up (stC_up hs90 (k := 52) (by decide) (by decide) (μ90 50 4) (μ90 49 7)) (k := 50) (by decide) (by decide) 4 (μ90 50 4 + 1)
            by_cases w : tk (j + 1) = 59
            · have hd : dmR tk 59 (.inr (j + 1, A)) = .inr (j + 2, A) := if_pos w
              rw [hd] at hsF
              have hlc : μ90 49 7 = ((A.length + 0 : Nat) : Int) := by
                have h90 := hs90
                rw [hd] at h90
                obtain ⟨F3, e3, _⟩ := h90
                rw [e3, rdM_7]
                show ((0 + A.length : Nat) : Int) = _
                omega
              refine ⟨.inr (j + 2, []), _, ?_, rfl, ?_, ?_⟩
              · unfold lnS
                rw [if_neg (by omega), if_neg (by omega), if_neg (by omega), if_pos w]
              · rw [h50d, hlc, hvd] at hsF
                show stC _ tk pl K 0 F0 (.inr (j + 2, A ++ [])) _
                rw [List.append_nil, h50d, hlc]
                exact hsF
              · show 0 + j + 2 ≤ j + 2
                omega
            · have hd : dmR tk 59 (.inr (j + 1, A)) = .inl (1, j + 1) := if_neg w
              rw [hd] at hsF
              refine ⟨.inl (1, j + 1), _, ?_, hsF, ?_, ?_, ?_⟩
              · unfold lnS
                rw [if_neg (by omega), if_neg (by omega), if_neg (by omega), if_neg w]
              · exact (fun k a1 a2 a3 => by funext i2; simp [ot_up, a1, a2, a3])
              · exact (fun i a1 => by simp [ot_up, a1])
              · exact (v53 hvd)
          · refine tt_aload_n X rfl dX4_readLine_78 ?_
            refine tt_vv X rfl mX4_95 (c_step l g ln ext _ (stC_8 hs67) (by have := stC_5 hs67; omega) (by have := stC_4 hs67; have := hg66.2.1; omega)) (k_49 _ _) ⟨_, rfl, rfl⟩ rfl rfl (Nat.le_of_ble_eq_true rfl) (by decide) (by decide) (by decide) dX4_readLine_79 (fun L79 μ79 hp => ?_)
            obtain ⟨rfl, e79⟩ := hp
            have hs79 : stC (ot_up μb 53 (μb 50 4) vd) tk pl K 0 F0 (.inr (j + 2, A)) μ79 := stC_step hg66 hs67 (by show tk (j + 1) ≠ 21; omega) e79
            obtain ⟨F, hcd, hs80⟩ := stC_fresh hs79
            refine tt_aload_n X rfl dX4_readLine_82 ?_
            refine tt_iconst X dX4_readLine_83 ?_
            
            refine tt_vv X rfl mX4_109 (c_readCondition l g ln ext (ot_up μb 53 (μb 50 4) vd) tk vl pl K A.length F hg66 _ [] _ rfl (fun p Q e => by cases e) hs80 (fun q hq => by cases hq; show A.length + 0 + 0 ≤ j + 2; omega)) (k_49 _ _) ⟨_, rfl, rfl⟩ rfl rfl (Nat.le_of_ble_eq_true rfl) (by decide) (by decide) (by decide) dX4_readLine_84 (fun L84 μ84 hp => ?_)
            obtain ⟨rfl, r2, hr2, hs84, hn84⟩ := hp
            
            refine tt_aload_n X rfl dX4_readLine_87 ?_
            refine tt_bipush X (by decide) dX4_readLine_88 ?_
            refine tt_vv X rfl mX4_112 (c_demand l g ln ext _ 59 (by decide) (ot_up μb 53 (μb 50 4) vd) tk vl pl K _ _ hg66 _ hs84) (k_49 _ _) ⟨_, rfl, rfl⟩ rfl rfl (Nat.le_of_ble_eq_true rfl) (by decide) (by decide) (by decide) dX4_readLine_90 (fun L90 μ90 hp => ?_)
            obtain ⟨rfl, hs90⟩ := hp
            have h7d := stC_7 hs90
            have h50d : μ90 50 4 = μb 50 4 := by rw [stC_o hs90 (k := 50) (by decide) (by decide)]; simp [ot_up]
            refine tt_aload_n X rfl dX4_readLine_93 ?_
            refine tt_getr X fX4_12 (k_49 _ _) (by decide) ⟨nofun, nofun⟩ rfl dX4_readLine_94 ?_
            refine tt_getr X fX4_115 (k_50 _ _) (by decide) ⟨nofun, nofun⟩ rfl dX4_readLine_97 ?_
            refine tt_aload_n X rfl dX4_readLine_100 ?_
            refine tt_getr X fX4_12 (k_49 _ _) (by decide) ⟨nofun, nofun⟩ rfl dX4_readLine_101 ?_
            refine tt_geti X fX4_38 (k_50 _ _) (by decide) (Or.inl rfl) dX4_readLine_104 ?_
            try simp (disch := decide) only [ot_rd, ot_rs, ot_rf, ot_ucd, ot_ucs]
            refine tt_aload_n X rfl dX4_readLine_107 ?_
            refine tt_geti X fX4_42 (k_49 _ _) (by decide) (Or.inl rfl) dX4_readLine_108 ?_
            try simp (disch := decide) only [ot_rd, ot_rs, ot_rf, ot_ucd, ot_ucs]
            refine tt_iastore X (k_52 _ _) (by first | omega | (simp (disch := decide) only [ot_rd, ot_rs, ot_rf, ot_ucd, ot_ucs]; omega)) dX4_readLine_111 ?_
            refine tt_aload_n X rfl dX4_readLine_112 ?_
            refine tt_getr X fX4_12 (k_49 _ _) (by decide) ⟨nofun, nofun⟩ rfl dX4_readLine_113 ?_
            refine tt_dup X dX4_readLine_116 ?_
            refine tt_geti X fX4_38 (k_50 _ _) (by decide) (Or.inl rfl) dX4_readLine_117 ?_
            try simp (disch := decide) only [ot_rd, ot_rs, ot_rf, ot_ucd, ot_ucs]
            refine tt_iconst X dX4_readLine_120 ?_
            refine tt_iadd X dX4_readLine_121 ?_
            refine tt_puti X fX4_38 kc_3 (k_50 _ _) (by decide) (fun q hq => by cases hq; rfl) rfl dX4_readLine_122 ?_
            refine tt_vret X ⟨hr.1, hr.2.1⟩ (by decide) (by decide) dX4_readLine_125 ?_
            refine ⟨rfl, ?_⟩
            have hsF := stC_up (stC_up hs90 (k := 52) (by decide) (by decide) (μ90 50 4) (μ90 49 7)) (k := 50) (by decide) (by decide) 4 (μ90 50 4 + 1)
            cases e1 : dmR tk 59 r2 with
            | inl f =>
              rw [e1] at hsF
              refine ⟨.inl f, _, ?_, hsF, ?_, ?_, ?_⟩
              · unfold lnS
                rw [if_neg (by omega), if_neg (by omega), if_pos (by omega)]
                refine ⟨r2, al_done hr2 hn84, ?_⟩
                cases r2 with
                | inl f2 => cases e1; rfl
                | inr q =>
                  replace e1 : (if tk q.1 = 59 then (.inr (q.1 + 1, q.2) : RS) else .inl (1, q.1)) = .inl f := e1
                  show if tk q.1 = 59 then _ else _
                  by_cases w : tk q.1 = 59
                  · rw [if_pos w] at e1; cases e1
                  · rw [if_neg w] at e1 ⊢; exact e1.symm
              · exact (fun k a1 a2 a3 => by funext i2; simp [ot_up, a1, a2, a3])
              · exact (fun i a1 => by simp [ot_up, a1])
              · exact (v53 hvd)
            | inr q2 =>
              rw [e1] at hsF
              cases r2 with
              | inl f2 => cases e1
              | inr q =>
                replace e1 : (if tk q.1 = 59 then (.inr (q.1 + 1, q.2) : RS) else .inl (1, q.1)) = .inr q2 := e1
                by_cases w : tk q.1 = 59
                · rw [if_pos w] at e1
                  cases e1
                  have hb2 := hr2.2.1
                  have hb3 := hr2.2.2
                  dsimp only at hb2 hb3
                  have hlc : μ90 49 7 = ((A.length + q.2.length : Nat) : Int) := by
                    have h90 := hs90
                    rw [show dmR tk 59 (.inr q) = .inr (q.1 + 1, q.2) from if_pos w] at h90
                    obtain ⟨F3, e3, _⟩ := h90
                    rw [e3, rdM_7]
                  refine ⟨.inr (q.1 + 1, q.2), _, ?_, rfl, ?_, ?_⟩
                  · unfold lnS
                    rw [if_neg (by omega), if_neg (by omega), if_pos (by omega)]
                    refine ⟨.inr q, al_done hr2 hn84, ?_⟩
                    show if tk q.1 = 59 then _ else _
                    rw [if_pos w]
                  · rw [h50d, hlc, hvd] at hsF
                    rw [h50d, hlc]
                    exact stC_join hcd hsF
                  · show q.2.length + j + 2 ≤ q.1 + 1
                    have : q.2.length + (j + 2) ≤ 0 + q.1 := hb2
                    omega
                · rw [if_neg w] at e1; cases e1
        · refine tt_iconst X dX4_readLine_60 ?_
          refine tt_goto X 65 dX4_readLine_61 (by decide) ?_
          refine tt_bastore X (k_53 _ _) (by rw [h50]; omega) (by omega) dX4_readLine_65 ?_
          obtain ⟨vd, hvd⟩ : ∃ vd : Int, vd = if tk j = 0 then 1 else 0 := ⟨_, rfl⟩
          refine tt_mem (μ' := ot_up μ 53 (μb 50 4) vd) (by first | (rw [hvd, if_pos (by omega), ← h50]; done) | (rw [hvd, if_neg (by omega), ← h50]; done)) ?_
          have hs66 := stC_up hs (k := 53) (by decide) (by decide) (μb 50 4) vd
          have hg66 := gTk_up hg (k := 53) (by omega) (μb 50 4) vd
          refine tt_aload_n X rfl dX4_readLine_66 ?_
          refine tt_vv X rfl mX4_95 (c_step l g ln ext _ (stC_8 hs66) (by have := stC_5 hs66; omega) (by have := stC_4 hs66; have := hg66.2.1; omega)) (k_49 _ _) ⟨_, rfl, rfl⟩ rfl rfl (Nat.le_of_ble_eq_true rfl) (by decide) (by decide) (by decide) dX4_readLine_67 (fun L67 μ67 hp => ?_)
          obtain ⟨rfl, e67⟩ := hp
          have hs67 : stC (ot_up μb 53 (μb 50 4) vd) tk pl K 0 F0 (.inr (j + 1, A)) μ67 := stC_step hg66 hs66 hne e67
          refine tt_aload_n X rfl dX4_readLine_70 ?_
          refine tt_geti X fX4_54 (k_49 _ _) (by decide) (Or.inl rfl) dX4_readLine_71 ?_
          try simp (disch := decide) only [ot_rd, ot_rs, ot_rf, ot_ucd, ot_ucs]
          have htk1 := hg.2.2.2.2.2.1 (j + 1)
          refine tt_top (y := tk (j + 1)) (stC_tok hs67) ?_
          refine tt_iconst X dX4_readLine_74 ?_
          refine tt_icmp_ne X 87 (by first | omega | (simp (disch := decide) only [ot_rd, ot_rs, ot_rf, ot_ucd, ot_ucs]; omega)) dX4_readLine_75 (by decide) (fun b75 => ?_) (fun b75 => ?_)
          · 
            refine tt_aload_n X rfl dX4_readLine_87 ?_
            refine tt_bipush X (by decide) dX4_readLine_88 ?_
            refine tt_vv X rfl mX4_112 (c_demand l g ln ext _ 59 (by decide) (ot_up μb 53 (μb 50 4) vd) tk vl pl K _ _ hg66 _ hs67) (k_49 _ _) ⟨_, rfl, rfl⟩ rfl rfl (Nat.le_of_ble_eq_true rfl) (by decide) (by decide) (by decide) dX4_readLine_90 (fun L90 μ90 hp => ?_)
            obtain ⟨rfl, hs90⟩ := hp
            have h7d := stC_7 hs90
            have h50d : μ90 50 4 = μb 50 4 := by rw [stC_o hs90 (k := 50) (by decide) (by decide)]; simp [ot_up]
            refine tt_aload_n X rfl dX4_readLine_93 ?_
            refine tt_getr X fX4_12 (k_49 _ _) (by decide) ⟨nofun, nofun⟩ rfl dX4_readLine_94 ?_
            refine tt_getr X fX4_115 (k_50 _ _) (by decide) ⟨nofun, nofun⟩ rfl dX4_readLine_97 ?_
            refine tt_aload_n X rfl dX4_readLine_100 ?_
            refine tt_getr X fX4_12 (k_49 _ _) (by decide) ⟨nofun, nofun⟩ rfl dX4_readLine_101 ?_
            refine tt_geti X fX4_38 (k_50 _ _) (by decide) (Or.inl rfl) dX4_readLine_104 ?_
            try simp (disch := decide) only [ot_rd, ot_rs, ot_rf, ot_ucd, ot_ucs]
            refine tt_aload_n X rfl dX4_readLine_107 ?_
            refine tt_geti X fX4_42 (k_49 _ _) (by decide) (Or.inl rfl) dX4_readLine_108 ?_
            try simp (disch := decide) only [ot_rd, ot_rs, ot_rf, ot_ucd, ot_ucs]
            refine tt_iastore X (k_52 _ _) (by first | omega | (simp (disch := decide) only [ot_rd, ot_rs, ot_rf, ot_ucd, ot_ucs]; omega)) dX4_readLine_111 ?_
            refine tt_aload_n X rfl dX4_readLine_112 ?_
            refine tt_getr X fX4_12 (k_49 _ _) (by decide) ⟨nofun, nofun⟩ rfl dX4_readLine_113 ?_
            refine tt_dup X dX4_readLine_116 ?_
            refine tt_geti X fX4_38 (k_50 _ _) (by decide) (Or.inl rfl) dX4_readLine_117 ?_
            try simp (disch := decide) only [ot_rd, ot_rs, ot_rf, ot_ucd, ot_ucs]
            refine tt_iconst X dX4_readLine_120 ?_
            refine tt_iadd X dX4_readLine_121 ?_
            refine tt_puti X fX4_38 kc_3 (k_50 _ _) (by decide) (fun q hq => by cases hq; rfl) rfl dX4_readLine_122 ?_
            refine tt_vret X ⟨hr.1, hr.2.1⟩ (by decide) (by decide) dX4_readLine_125 ?_
            refine ⟨rfl, ?_⟩
            have hsF := stC_up (stC_up hs90 (k := 52) (by decide) (by decide) (μ90 50 4) (μ90 49 7)) (k := 50) (by decide) (by decide) 4 (μ90 50 4 + 1)
            by_cases w : tk (j + 1) = 59
            · have hd : dmR tk 59 (.inr (j + 1, A)) = .inr (j + 2, A) := if_pos w
              rw [hd] at hsF
              have hlc : μ90 49 7 = ((A.length + 0 : Nat) : Int) := by
                have h90 := hs90
                rw [hd] at h90
                obtain ⟨F3, e3, _⟩ := h90
                rw [e3, rdM_7]
                show ((0 + A.length : Nat) : Int) = _
                omega
              refine ⟨.inr (j + 2, []), _, ?_, rfl, ?_, ?_⟩
              · unfold lnS
                rw [if_neg (by omega), if_neg (by omega), if_neg (by omega), if_pos w]
              · rw [h50d, hlc, hvd] at hsF
                show stC _ tk pl K 0 F0 (.inr (j + 2, A ++ [])) _
                rw [List.append_nil, h50d, hlc]
                exact hsF
              · show 0 + j + 2 ≤ j + 2
                omega
            · have hd : dmR tk 59 (.inr (j + 1, A)) = .inl (1, j + 1) := if_neg w
              rw [hd] at hsF
              refine ⟨.inl (1, j + 1), _, ?_, hsF, ?_, ?_, ?_⟩
              · unfold lnS
                rw [if_neg (by omega), if_neg (by omega), if_neg (by omega), if_neg w]
              · exact (fun k a1 a2 a3 => by funext i2; simp [ot_up, a1, a2, a3])
              · exact (fun i a1 => by simp [ot_up, a1])
              · exact (v53 hvd)
          · refine tt_aload_n X rfl dX4_readLine_78 ?_
            refine tt_vv X rfl mX4_95 (c_step l g ln ext _ (stC_8 hs67) (by have := stC_5 hs67; omega) (by have := stC_4 hs67; have := hg66.2.1; omega)) (k_49 _ _) ⟨_, rfl, rfl⟩ rfl rfl (Nat.le_of_ble_eq_true rfl) (by decide) (by decide) (by decide) dX4_readLine_79 (fun L79 μ79 hp => ?_)
            obtain ⟨rfl, e79⟩ := hp
            have hs79 : stC (ot_up μb 53 (μb 50 4) vd) tk pl K 0 F0 (.inr (j + 2, A)) μ79 := stC_step hg66 hs67 (by show tk (j + 1) ≠ 21; omega) e79
            obtain ⟨F, hcd, hs80⟩ := stC_fresh hs79
            refine tt_aload_n X rfl dX4_readLine_82 ?_
            refine tt_iconst X dX4_readLine_83 ?_
            
            refine tt_vv X rfl mX4_109 (c_readCondition l g ln ext (ot_up μb 53 (μb 50 4) vd) tk vl pl K A.length F hg66 _ [] _ rfl (fun p Q e => by cases e) hs80 (fun q hq => by cases hq; show A.length + 0 + 0 ≤ j + 2; omega)) (k_49 _ _) ⟨_, rfl, rfl⟩ rfl rfl (Nat.le_of_ble_eq_true rfl) (by decide) (by decide) (by decide) dX4_readLine_84 (fun L84 μ84 hp => ?_)
            obtain ⟨rfl, r2, hr2, hs84, hn84⟩ := hp
            
            refine tt_aload_n X rfl dX4_readLine_87 ?_
            refine tt_bipush X (by decide) dX4_readLine_88 ?_
            refine tt_vv X rfl mX4_112 (c_demand l g ln ext _ 59 (by decide) (ot_up μb 53 (μb 50 4) vd) tk vl pl K _ _ hg66 _ hs84) (k_49 _ _) ⟨_, rfl, rfl⟩ rfl rfl (Nat.le_of_ble_eq_true rfl) (by decide) (by decide) (by decide) dX4_readLine_90 (fun L90 μ90 hp => ?_)
            obtain ⟨rfl, hs90⟩ := hp
            have h7d := stC_7 hs90
            have h50d : μ90 50 4 = μb 50 4 := by rw [stC_o hs90 (k := 50) (by decide) (by decide)]; simp [ot_up]
            refine tt_aload_n X rfl dX4_readLine_93 ?_
            refine tt_getr X fX4_12 (k_49 _ _) (by decide) ⟨nofun, nofun⟩ rfl dX4_readLine_94 ?_
            refine tt_getr X fX4_115 (k_50 _ _) (by decide) ⟨nofun, nofun⟩ rfl dX4_readLine_97 ?_
            refine tt_aload_n X rfl dX4_readLine_100 ?_
            refine tt_getr X fX4_12 (k_49 _ _) (by decide) ⟨nofun, nofun⟩ rfl dX4_readLine_101 ?_
            refine tt_geti X fX4_38 (k_50 _ _) (by decide) (Or.inl rfl) dX4_readLine_104 ?_
            try simp (disch := decide) only [ot_rd, ot_rs, ot_rf, ot_ucd, ot_ucs]
            refine tt_aload_n X rfl dX4_readLine_107 ?_
            refine tt_geti X fX4_42 (k_49 _ _) (by decide) (Or.inl rfl) dX4_readLine_108 ?_
            try simp (disch := decide) only [ot_rd, ot_rs, ot_rf, ot_ucd, ot_ucs]
            refine tt_iastore X (k_52 _ _) (by first | omega | (simp (disch := decide) only [ot_rd, ot_rs, ot_rf, ot_ucd, ot_ucs]; omega)) dX4_readLine_111 ?_
            refine tt_aload_n X rfl dX4_readLine_112 ?_
            refine tt_getr X fX4_12 (k_49 _ _) (by decide) ⟨nofun, nofun⟩ rfl dX4_readLine_113 ?_
            refine tt_dup X dX4_readLine_116 ?_
            refine tt_geti X fX4_38 (k_50 _ _) (by decide) (Or.inl rfl) dX4_readLine_117 ?_
            try simp (disch := decide) only [ot_rd, ot_rs, ot_rf, ot_ucd, ot_ucs]
            refine tt_iconst X dX4_readLine_120 ?_
            refine tt_iadd X dX4_readLine_121 ?_
            refine tt_puti X fX4_38 kc_3 (k_50 _ _) (by decide) (fun q hq => by cases hq; rfl) rfl dX4_readLine_122 ?_
            refine tt_vret X ⟨hr.1, hr.2.1⟩ (by decide) (by decide) dX4_readLine_125 ?_
            refine ⟨rfl, ?_⟩
            have hsF := stC_up (stC_up hs90 (k := 52) (by decide) (by decide) (μ90 50 4) (μ90 49 7)) (k := 50) (by decide) (by decide) 4 (μ90 50 4 + 1)
            cases e1 : dmR tk 59 r2 with
            | inl f =>
              rw [e1] at hsF
              refine ⟨.inl f, _, ?_, hsF, ?_, ?_, ?_⟩
              · unfold lnS
                rw [if_neg (by omega), if_neg (by omega), if_pos (by omega)]
                refine ⟨r2, al_done hr2 hn84, ?_⟩
                cases r2 with
                | inl f2 => cases e1; rfl
                | inr q =>
                  replace e1 : (if tk q.1 = 59 then (.inr (q.1 + 1, q.2) : RS) else .inl (1, q.1)) = .inl f := e1
                  show if tk q.1 = 59 then _ else _
                  by_cases w : tk q.1 = 59
                  · rw [if_pos w] at e1; cases e1
                  · rw [if_neg w] at e1 ⊢; exact e1.symm
              · exact (fun k a1 a2 a3 => by funext i2; simp [ot_up, a1, a2, a3])
              · exact (fun i a1 => by simp [ot_up, a1])
              · exact (v53 hvd)
            | inr q2 =>
              rw [e1] at hsF
              cases r2 with
              | inl f2 => cases e1
              | inr q =>
                replace e1 : (if tk q.1 = 59 then (.inr (q.1 + 1, q.2) : RS) else .inl (1, q.1)) = .inr q2 := e1
                by_cases w : tk q.1 = 59
                · rw [if_pos w] at e1
                  cases e1
                  have hb2 := hr2.2.1
                  have hb3 := hr2.2.2
                  dsimp only at hb2 hb3
                  have hlc : μ90 49 7 = ((A.length + q.2.length : Nat) : Int) := by
                    have h90 := hs90
                    rw [show dmR tk 59 (.inr q) = .inr (q.1 + 1, q.2) from if_pos w] at h90
                    obtain ⟨F3, e3, _⟩ := h90
                    rw [e3, rdM_7]
                  refine ⟨.inr (q.1 + 1, q.2), _, ?_, rfl, ?_, ?_⟩
                  · unfold lnS
                    rw [if_neg (by omega), if_neg (by omega), if_pos (by omega)]
                    refine ⟨.inr q, al_done hr2 hn84, ?_⟩
                    show if tk q.1 = 59 then _ else _
                    rw [if_pos w]
                  · rw [h50d, hlc, hvd] at hsF
                    rw [h50d, hlc]
                    exact stC_join hcd hsF
                  · show q.2.length + j + 2 ≤ q.1 + 1
                    have : q.2.length + (j + 2) ≤ 0 + q.1 := hb2
                    omega
                · rw [if_neg w] at e1; cases e1
      · refine tt_aload_n X rfl dX4_readLine_33 ?_
        refine tt_iconst X dX4_readLine_34 ?_
        refine tt_vv X rfl mX4_98 (c_refuse l g ln ext _ _ (stC_8 hs) (by have := stC_5 hs; omega)) (k_49 _ _) ⟨_, rfl, rfl⟩ rfl rfl (Nat.le_of_ble_eq_true rfl) (by decide) (by decide) (by decide) dX4_readLine_35 (fun L35 μ35 hp => ?_)
        obtain ⟨rfl, e35⟩ := hp
        have hs35 := stC_ref hg hs (k := 3) (by omega) e35
        refine tt_vret X ⟨hr.1, hr.2.1⟩ (by decide) (by decide) dX4_readLine_38 ?_
        exact ⟨rfl, .inl (3, j), μb, by unfold lnS; rw [if_neg (by omega), if_pos (by omega)], hs35, fun _ _ _ _ => rfl, fun _ _ => rfl, fun _ => Or.inl rfl⟩
    · refine tt_aload_n X rfl dX4_readLine_15 ?_
      refine tt_iconst X dX4_readLine_16 ?_
      refine tt_vv X rfl mX4_98 (c_refuse l g ln ext _ _ (stC_8 hs) (by have := stC_5 hs; omega)) (k_49 _ _) ⟨_, rfl, rfl⟩ rfl rfl (Nat.le_of_ble_eq_true rfl) (by decide) (by decide) (by decide) dX4_readLine_17 (fun L17 μ17 hp => ?_)
      obtain ⟨rfl, e17⟩ := hp
      have hs17 := stC_ref hg hs (k := 1) (by omega) e17
      refine tt_vret X ⟨hr.1, hr.2.1⟩ (by decide) (by decide) dX4_readLine_20 ?_
      exact ⟨rfl, .inl (1, j), μb, by unfold lnS; rw [if_pos (by omega)], hs17, fun _ _ _ _ => rfl, fun _ _ => rfl, fun _ => Or.inl rfl⟩

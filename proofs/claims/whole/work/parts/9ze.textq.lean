def cp3 (σ0 σ : ot_M) (l : Nat) : Prop := (∀ k, k ≠ 74 → k ≠ 75 → k ≠ 76 → σ k = σ0 k) ∧ (∀ i : Int, 16 ≤ i → σ 74 i = σ0 74 i ∧ σ 75 i = σ0 75 i ∧ σ 76 i = σ0 76 i) ∧ ∀ i : Nat, i < l → σ 74 (i : Int) = σ0 74 (16 + (i : Int)) ∧ σ 75 (i : Int) = σ0 75 (16 + (i : Int)) ∧ σ 76 (i : Int) = σ0 76 (16 + (i : Int))
theorem cp3_next {σ0 σ σ2 : ot_M} {l : Nat} (h : cp3 σ0 σ l) (hl : l < 16) (e : σ2 = ot_up (ot_up (ot_up σ 74 (l : Int) (σ 74 (16 + (l : Int)))) 75 (l : Int) (σ 75 (16 + (l : Int)))) 76 (l : Int) (σ 76 (16 + (l : Int)))) : cp3 σ0 σ2 (l + 1) := by
  obtain ⟨h1, h2, h3⟩ := h
  refine ⟨fun k a1 a2 a3 => ?_, fun i hi => ?_, fun i hi => ?_⟩
  · rw [← h1 k a1 a2 a3, e]; funext i; simp [ot_up, a1, a2, a3]
  · have hne : i ≠ (l : Int) := by omega
    rw [← (h2 i hi).1, ← (h2 i hi).2.1, ← (h2 i hi).2.2, e]
    refine ⟨?_, ?_, ?_⟩ <;> simp [ot_up, hne]
  · by_cases w : i = l
    · subst w
      have h4 := h2 (16 + (i : Int)) (by omega)
      rw [← h4.1, ← h4.2.1, ← h4.2.2, e]
      refine ⟨?_, ?_, ?_⟩ <;> simp [ot_up]
    · have h4 := h3 i (by omega)
      have hne : (i : Int) ≠ (l : Int) := by omega
      rw [← h4.1, ← h4.2.1, ← h4.2.2, e]
      refine ⟨?_, ?_, ?_⟩ <;> simp [ot_up] <;> intro hc <;> omega
def cp2 (σ0 σ : ot_M) (l : Nat) : Prop := (∀ k, k ≠ 77 → k ≠ 78 → σ k = σ0 k) ∧ (∀ i : Int, 400 ≤ i → σ 77 i = σ0 77 i ∧ σ 78 i = σ0 78 i) ∧ ∀ i : Nat, i < l → σ 77 (i : Int) = σ0 77 (400 + (i : Int)) ∧ σ 78 (i : Int) = σ0 78 (400 + (i : Int))
theorem cp2_next {σ0 σ σ2 : ot_M} {l : Nat} (h : cp2 σ0 σ l) (hl : l < 400) (e : σ2 = ot_up (ot_up σ 77 (l : Int) (σ 77 (400 + (l : Int)))) 78 (l : Int) (σ 78 (400 + (l : Int)))) : cp2 σ0 σ2 (l + 1) := by
  obtain ⟨h1, h2, h3⟩ := h
  refine ⟨fun k a1 a2 => ?_, fun i hi => ?_, fun i hi => ?_⟩
  · rw [← h1 k a1 a2, e]; funext i; simp [ot_up, a1, a2]
  · have hne : i ≠ (l : Int) := by omega
    rw [← (h2 i hi).1, ← (h2 i hi).2, e]
    refine ⟨?_, ?_⟩ <;> simp [ot_up, hne]
  · by_cases w : i = l
    · subst w
      have h4 := h2 (400 + (i : Int)) (by omega)
      rw [← h4.1, ← h4.2, e]
      refine ⟨?_, ?_⟩ <;> simp [ot_up]
    · have h4 := h3 i (by omega)
      rw [← h4.1, ← h4.2, e]
      refine ⟨?_, ?_⟩ <;> simp [ot_up] <;> intro hc <;> omega
/-- what the reference's text leaves -/
def txQ (T : Nat → Int) (n : Nat) (μ : ot_M) (tr : TR) (r : Int) (σ : ot_M) : Prop := match tr with
  | .inl f => r = -1 ∧ σ 60 35 = f.1 ∧ σ 60 36 = (psN T n f.2 : Int) ∧ σ 60 23 = μ 60 23 ∧ lw3 μ σ ∧ lw7 μ σ
  | .inr ls => r = (ls.length : Int) ∧ ls.length ≤ 16 ∧ (fl ls).length ≤ 400 ∧ σ 60 35 = 0 ∧ σ 60 36 = -1 ∧ σ 60 23 = (ls.length : Int) ∧ (∀ (i : Nat) (x : Int × CL), ls[i]? = some x → σ 74 (i : Int) = x.1 ∧ σ 75 (i : Int) = ((fl (ls.take i)).length : Int) ∧ σ 76 (i : Int) = ((fl (ls.take (i + 1))).length : Int) ∧ (x.1 = 0 ∨ x.1 = 1)) ∧ ∀ (i : Nat) (x : Int × Int), (fl ls)[i]? = some x → σ 77 (i : Int) = x.1 ∧ σ 78 (i : Int) = x.2
def tx5 (i : Int) : Prop := i9 i ∧ i ≠ 17 ∧ i ≠ 23 ∧ i ≠ 35 ∧ i ≠ 36
set_option maxRecDepth 100000 in
set_option maxHeartbeats 1000000 in
theorem q_text (l : Launch) (g : ot_G) (ln : Nat) (ext : ot_L) (μ : ot_M) (h0 : μ 60 0 = 0) (T : Nat → Int) (n : Nat) (hT : ∀ k : Nat, k < n → μ 72 (k : Int) = T k) (hT2 : ∀ k, 0 ≤ T k ∧ T k ≤ 255) (hn : n ≤ 400) (hnt : μ 60 17 = (n : Int)) (hwd : gWd (μ 73)) (hv21 : -1 ≤ μ 60 21 ∧ μ 60 21 ≤ 99999)  : ot_C l g yX10_text cX10_text 3 (some .int) 10 0 0 [.inr 60] (LL ln ext) μ (ot_pi (fun r L2 μ2 => L2 = LL ln ext ∧ (∀ k, k ≠ 60 → k < 74 ∨ 79 < k → μ2 k = μ k) ∧ (∀ i, tx5 i → μ2 60 i = μ 60 i) ∧ μ2 60 17 = 0 ∧ (-1 ≤ μ2 60 21 ∧ μ2 60 21 ≤ 99999) ∧ ∃ tr, tR1 (tkT T n) (vlT T n) (0, []) tr ∧ txQ T n μ tr r μ2)) := by
  refine ot_enter (by decide) (Nat.le_of_ble_eq_true rfl) ?_
  intro p e s m args below meth c X hr
  refine tt_aload_n X rfl dX10_text_0 ?_
  refine tt_iconst X dX10_text_1 ?_
  refine tt_puti X fX10_98 kc_10 (k_60 _ _) (by decide) (fun q hq => by cases hq; rfl) rfl dX10_text_2 ?_
  refine tt_mem (ot_nop h0) ?_
  refine tt_aload_n X rfl dX10_text_5 ?_
  refine tt_iconst X dX10_text_6 ?_
  refine tt_puti X fX10_217 kc_10 (k_60 _ _) (by decide) (fun q hq => by cases hq; rfl) rfl dX10_text_7 ?_
  refine tt_aload_n X rfl dX10_text_10 ?_
  refine tt_iconst X dX10_text_11 ?_
  refine tt_puti X fX10_71 kc_10 (k_60 _ _) (by decide) (fun q hq => by cases hq; rfl) rfl dX10_text_12 ?_
  refine tt_aload_n X rfl dX10_text_15 ?_
  refine tt_iconst X dX10_text_16 ?_
  refine tt_puti X fX10_135 kc_10 (k_60 _ _) (by decide) (fun q hq => by cases hq; rfl) rfl dX10_text_17 ?_
  refine tt_aload_n X rfl dX10_text_20 ?_
  refine tt_iconst X dX10_text_21 ?_
  refine tt_puti X fX10_170 kc_10 (k_60 _ _) (by decide) (fun q hq => by cases hq; rfl) rfl dX10_text_22 ?_
  refine tt_aload_n X rfl dX10_text_25 ?_
  refine tt_iconst X dX10_text_26 ?_
  refine tt_puti X fX10_199 kc_10 (k_60 _ _) (by decide) (fun q hq => by cases hq; rfl) rfl dX10_text_27 ?_
  refine tt_gen (fun σ1 e1 => ?_)
  have hk1 : ∀ k, k ≠ 60 → σ1 k = μ k := fun k a1 => by rw [e1]; funext i; simp [ot_up, a1]
  have hf1 : ∀ i, i ≠ 35 → i ≠ 36 → i ≠ 18 → i ≠ 29 → i ≠ 30 → σ1 60 i = μ 60 i := fun i a1 a2 a3 a4 a5 => by rw [e1]; simp [ot_up, a1, a2, a3, a4, a5]
  have h118 : σ1 60 18 = ((0 : Nat) : Int) := by rw [e1]; simp [ot_up]
  have h129 : σ1 60 29 = 0 := by rw [e1]; simp [ot_up]
  have h130 : σ1 60 30 = 0 := by rw [e1]; simp [ot_up]
  have h135 : σ1 60 35 = 0 := by rw [e1]; simp [ot_up]
  have h136 : σ1 60 36 = -1 := by rw [e1]; simp [ot_up]
  clear e1
  refine tt_aload_n X rfl dX10_text_30 ?_
  refine tt_vv X rfl mX10_180 (q_reads l g ln ext _ 0 h118 T n (by rw [hk1 72 (by decide)]; exact hT) hT2 hn (by rw [hf1 17 (by decide) (by decide) (by decide) (by decide) (by decide)]; exact hnt) (Nat.zero_le _) (by rw [hk1 73 (by decide)]; exact hwd)) (k_60 _ _) ⟨_, rfl, rfl⟩ rfl rfl (Nat.le_of_ble_eq_true rfl) (by decide) (by decide) (by decide) dX10_text_31 (fun L31 μ31 hp => ?_)
  obtain ⟨rfl, sp, tk, vl, e31, hsp, htq, hvl⟩ := hp
  have hs31 : qS T n μ31 0 (μ31 77) (μ31 78) (0, []) μ31 := by
    refine ⟨⟨fun _ _ _ _ => rfl, fun _ _ _ _ _ _ _ _ => rfl⟩, ?_, ?_, ?_, ?_, ?_, (fun i x hx => by cases hx), fun _ _ => ⟨rfl, rfl⟩⟩
    · rw [e31, rqM_18]
      show (sp : Int) = ((if psN T n 0 < n then enN T n (psN T n 0) else n : Nat) : Int)
      rw [hsp]
      rfl
    · rw [e31, rqM_19]; rfl
    · rw [e31, rqM_20, rqM_21]; exact htq
    · rw [e31, rqM_21]
      have := hf1 21 (by decide) (by decide) (by decide) (by decide) (by decide)
      omega
    · rw [e31, rqM_f (by decide)]; exact h129
  have hg31 : qG T n μ31 := by
    refine ⟨?_, hT2, hn, ?_, ?_⟩
    · rw [e31, rqM_o (by decide), hk1 72 (by decide)]; exact hT
    · rw [e31, rqM_f (by decide), hf1 17 (by decide) (by decide) (by decide) (by decide) (by decide)]; exact hnt
    · rw [e31, rqM_o (by decide), hk1 73 (by decide)]; exact hwd
  have h3130 : μ31 60 30 = 0 := by rw [e31, rqM_f (by decide)]; exact h130
  refine tt_aload_n X rfl dX10_text_34 ?_
  refine tt_vi X rfl mX10_220 (q_readText l g ln ext _ T n hg31 hs31 h3130) (k_60 _ _) ⟨_, rfl, rfl⟩ rfl rfl (Nat.le_of_ble_eq_true rfl) (by decide) (by decide) (by decide) dX10_text_35 (fun z35 L35 μ35 hp => ?_)
  obtain ⟨rfl, tr, htr, hro⟩ := hp
  have hz35 : -1 ≤ z35 ∧ z35 ≤ 16 := by
    cases tr with
    | inl f => have := hro.1; omega
    | inr ls => have := hro.1; have := hro.2.1; omega
  have hb35 : qB3 μ31 μ35 ∧ (-1 ≤ μ35 60 21 ∧ μ35 60 21 ≤ 99999) := by
    cases tr with
    | inl f => exact ⟨hro.2.1, hro.2.2.2.2.2.2⟩
    | inr ls => obtain ⟨_, _, _, j9, hrt⟩ := hro; exact ⟨hrt.1, hrt.2.2.2.1.2.2.2.2.1⟩
  have hk35 : ∀ k, k ≠ 60 → k < 74 ∨ 79 < k → μ35 k = μ k := fun k a1 a2 => by rw [hb35.1.1 k a1 a2, e31, rqM_o a1]; exact hk1 k a1
  have hf35 : ∀ i, i9 i → i ≠ 35 → i ≠ 36 → μ35 60 i = μ 60 i := fun i a1 a2 a3 => by rw [hb35.1.2 i a1, e31, rqM_f (i9_r a1)]; exact hf1 i a2 a3 a1.1 a1.2.2.2.2.1 a1.2.2.2.2.2.1
  have h35k : μ35 60 35 = 0 := by rw [hb35.1.2 35 ⟨by decide, by decide, by decide, by decide, by decide, by decide, by decide, by decide, by decide⟩, e31, rqM_f (by decide)]; exact h135
  have h35p : μ35 60 36 = -1 := by rw [hb35.1.2 36 ⟨by decide, by decide, by decide, by decide, by decide, by decide, by decide, by decide, by decide⟩, e31, rqM_f (by decide)]; exact h136
  refine tt_istore_n X dX10_text_38 (by decide) ?_
  refine tt_aload_n X rfl dX10_text_39 ?_
  refine tt_iconst X dX10_text_40 ?_
  refine tt_puti X fX10_128 kc_10 (k_60 _ _) (by decide) (fun q hq => by cases hq; rfl) rfl dX10_text_41 ?_
  refine tt_iload_n X rfl dX10_text_44 ?_
  refine tt_iconst X dX10_text_45 ?_
  refine tt_icmp_ne X 67 (by first | omega | (simp (disch := decide) only [ot_rd, ot_rs, ot_rf, ot_ucd, ot_ucs]; omega)) dX10_text_46 (by decide) (fun b46 => ?_) (fun b46 => ?_)
  · obtain ⟨ls, hls⟩ : ∃ ls, tr = .inr ls := by
      cases tr with
      | inl f => exact absurd hro.1 b46
      | inr ls => exact ⟨ls, rfl⟩
    subst hls
    obtain ⟨hz, hl16, hf400, j9, hrt⟩ := hro
    subst hz
    refine tt_gen (fun σ0 e0 => ?_)
    have h029 : σ0 60 29 = ((fl ls).length : Int) := by
      have := hrt.2.2.2.1.2.2.2.2.2.1
      rw [e0]
      show ot_up μ35 60 17 0 60 29 = _
      rw [show ot_up μ35 60 17 0 60 29 = μ35 60 29 by simp [ot_up], this]
      show ((0 + (fl ls).length : Nat) : Int) = _
      rw [Nat.zero_add]
    refine tt_iconst X dX10_text_67 ?_
    refine tt_istore_n X dX10_text_68 (by decide) ?_
    refine tt_loc [(0, _), (1, _), (2, _)] ⟨rfl, rfl, rfl, trivial⟩ ?_
    refine tt_loop (α := ot_M × Nat) (fun ((σ, l1)) => 16 - l1) (fun ((σ, l1)) => cp3 σ0 σ l1 ∧ l1 ≤ ls.length) (fun ((σ, l1)) => σ) (fun ((σ, l1)) => [(0, .inr 60), (1, .inl ((ls.length : Nat) : Int)), (2, .inl ((l1 : Nat) : Int))]) (σ0, 0) ⟨⟨fun _ _ _ _ => rfl, fun _ _ => ⟨rfl, rfl, rfl⟩, fun i hi => by omega⟩, Nat.zero_le _⟩ ?_
    intro a hI ih
    obtain ⟨σ, l1⟩ := a
    try dsimp only at hI ih ⊢
    replace hI : cp3 σ0 σ l1 ∧ l1 ≤ ls.length := hI
    have hlJ := hI.2
    refine tt_iload_n X rfl dX10_text_69 ?_
    refine tt_iload_n X rfl dX10_text_70 ?_
    refine tt_icmp_ge X 125 (by first | omega | (simp (disch := decide) only [ot_rd, ot_rs, ot_rf, ot_ucd, ot_ucs]; omega)) dX10_text_71 (by decide) (fun b71 => ?_) (fun b71 => ?_)
    · have hlm : l1 = ls.length := by have := hI.2; omega
      have hcp := hI.1
      have hs29 : σ 60 29 = ((fl ls).length : Int) := by rw [hcp.1 60 (by decide) (by decide) (by decide)]; exact h029
      refine tt_iconst X dX10_text_125 ?_
      refine tt_istore_n X dX10_text_126 (by decide) ?_
      refine tt_loc [(0, _), (1, _), (2, _)] ⟨rfl, rfl, rfl, trivial⟩ ?_
      refine tt_loop (α := ot_M × Nat) (fun ((τ, c1)) => 400 - c1) (fun ((τ, c1)) => cp2 σ τ c1 ∧ c1 ≤ (fl ls).length) (fun ((τ, c1)) => τ) (fun ((τ, c1)) => [(0, .inr 60), (1, .inl ((ls.length : Nat) : Int)), (2, .inl ((c1 : Nat) : Int))]) (σ, 0) ⟨⟨fun _ _ _ => rfl, fun _ _ => ⟨rfl, rfl⟩, fun i hi => by omega⟩, Nat.zero_le _⟩ ?_
      intro a hIJ ihJ
      obtain ⟨τ, c1⟩ := a
      try dsimp only at hIJ ihJ ⊢
      have hJ : cp2 σ τ c1 ∧ c1 ≤ (fl ls).length := hIJ
      have hcJ := hJ.2
      refine tt_iload_n X rfl dX10_text_127 ?_
      refine tt_aload_n X rfl dX10_text_128 ?_
      refine tt_geti X fX10_170 (k_60 _ _) (by decide) (Or.inl rfl) dX10_text_129 ?_
      try simp (disch := decide) only [ot_rd, ot_rs, ot_rf, ot_ucd, ot_ucs]
      refine tt_top (y := ((fl ls).length : Int)) (by rw [hJ.1.1 60 (by decide) (by decide)]; exact hs29) ?_
      refine tt_icmp_ge X 173 (by first | omega | (simp (disch := decide) only [ot_rd, ot_rs, ot_rf, ot_ucd, ot_ucs]; omega)) dX10_text_132 (by decide) (fun b132 => ?_) (fun b132 => ?_)
      · refine tt_aload_n X rfl dX10_text_173 ?_
        refine tt_iload_n X rfl dX10_text_174 ?_
        refine tt_puti X fX10_114 kc_10 (k_60 _ _) (by decide) (fun q hq => by cases hq; rfl) rfl dX10_text_175 ?_
        refine tt_iload_n X rfl dX10_text_178 ?_
        refine tt_iret X ⟨hr.1, hr.2.1⟩ (by decide) (by decide) dX10_text_179 ?_
        have hcm : c1 = (fl ls).length := by omega
        have hoo : ∀ k, k < 74 ∨ 79 < k → τ k = σ0 k := fun k a => by rw [hJ.1.1 k (by omega) (by omega), hcp.1 k (by omega) (by omega) (by omega)]
        have h060 : ∀ i, i ≠ 17 → σ0 60 i = μ35 60 i := fun i a => by rw [e0]; simp [ot_up, a]
        have h0o : ∀ k, k ≠ 60 → σ0 k = μ35 k := fun k a => by rw [e0]; funext i; simp [ot_up, a]
        refine ⟨rfl, fun k a1 a2 => ?_, fun i a => ?_, ?_, ?_, .inr ls, htr, rfl, hl16, hf400, ?_, ?_, ?_, fun i x hx => ?_, fun i x hx => ?_⟩
        · rw [← hk35 k a1 a2, ← h0o k a1, ← hoo k a2]; funext i; simp [ot_up, a1]
        · rw [← hf35 i a.1 a.2.2.2.1 a.2.2.2.2, ← h060 i a.2.1, ← hoo 60 (by decide)]
          have a23 := a.2.2.1
          simp [ot_up, a23]
        · have : τ 60 17 = 0 := by rw [hoo 60 (by decide), e0]; simp [ot_up]
          rw [← this]; simp [ot_up]
        · have : τ 60 21 = μ35 60 21 := by rw [hoo 60 (by decide), h060 21 (by decide)]
          have h1 := hb35.2
          rw [← this] at h1
          simpa [ot_up] using h1
        · rw [← h35k, ← h060 35 (by decide), ← hoo 60 (by decide)]; simp [ot_up]
        · rw [← h35p, ← h060 36 (by decide), ← hoo 60 (by decide)]; simp [ot_up]
        · simp [ot_up]
        · have hil : i < ls.length := by
            apply Classical.byContradiction
            intro w
            rw [List.getElem?_eq_none (by omega)] at hx
            cases hx
          have h1 := hrt.2.2.1 i x hx
          have h2 := hcp.2.2 i (by omega)
          rw [h0o 74 (by decide), h0o 75 (by decide), h0o 76 (by decide)] at h2
          rw [h1.1, h1.2.1, h1.2.2.1] at h2
          refine ⟨?_, ?_, ?_, h1.2.2.2⟩
          · rw [← h2.1, ← hJ.1.1 74 (by decide) (by decide)]; simp [ot_up]
          · rw [← h2.2.1, ← hJ.1.1 75 (by decide) (by decide)]; simp [ot_up]
          · rw [← h2.2.2, ← hJ.1.1 76 (by decide) (by decide)]; simp [ot_up]
        · have hil : i < (fl ls).length := by
            apply Classical.byContradiction
            intro w
            rw [List.getElem?_eq_none (by omega)] at hx
            cases hx
          have h1 := hrt.2.2.2.1.2.2.2.2.2.2.1 i x hx
          rw [Nat.zero_add] at h1
          have h2 := hJ.1.2.2 i (by omega)
          rw [hcp.1 77 (by decide) (by decide) (by decide), hcp.1 78 (by decide) (by decide) (by decide), h0o 77 (by decide), h0o 78 (by decide)] at h2
          rw [h1.1, h1.2] at h2
          rw [← h2.1, ← h2.2]
          refine ⟨?_, ?_⟩ <;> simp [ot_up]
      · refine tt_aload_n X rfl dX10_text_135 ?_
        refine tt_getr X fX10_62 (k_60 _ _) (by decide) ⟨nofun, nofun⟩ rfl dX10_text_136 ?_
        refine tt_iload_n X rfl dX10_text_139 ?_
        refine tt_aload_n X rfl dX10_text_140 ?_
        refine tt_getr X fX10_62 (k_60 _ _) (by decide) ⟨nofun, nofun⟩ rfl dX10_text_141 ?_
        refine tt_sipush X (by decide) dX10_text_144 ?_
        refine tt_iload_n X rfl dX10_text_147 ?_
        refine tt_iadd X dX10_text_148 ?_
        refine tt_iaload X (k_77 _ _) (by first | omega | (simp (disch := decide) only [ot_rd, ot_rs, ot_rf, ot_ucd, ot_ucs]; omega)) dX10_text_149 ?_
        try simp (disch := decide) only [ot_rd, ot_rs, ot_rf, ot_ucd, ot_ucs]
        refine tt_iastore X (k_77 _ _) (by first | omega | (simp (disch := decide) only [ot_rd, ot_rs, ot_rf, ot_ucd, ot_ucs]; omega)) dX10_text_150 ?_
        refine tt_aload_n X rfl dX10_text_151 ?_
        refine tt_getr X fX10_65 (k_60 _ _) (by decide) ⟨nofun, nofun⟩ rfl dX10_text_152 ?_
        refine tt_iload_n X rfl dX10_text_155 ?_
        refine tt_aload_n X rfl dX10_text_156 ?_
        refine tt_getr X fX10_65 (k_60 _ _) (by decide) ⟨nofun, nofun⟩ rfl dX10_text_157 ?_
        refine tt_sipush X (by decide) dX10_text_160 ?_
        refine tt_iload_n X rfl dX10_text_163 ?_
        refine tt_iadd X dX10_text_164 ?_
        refine tt_iaload X (k_78 _ _) (by first | omega | (simp (disch := decide) only [ot_rd, ot_rs, ot_rf, ot_ucd, ot_ucs]; omega)) dX10_text_165 ?_
        try simp (disch := decide) only [ot_rd, ot_rs, ot_rf, ot_ucd, ot_ucs]
        refine tt_iastore X (k_78 _ _) (by first | omega | (simp (disch := decide) only [ot_rd, ot_rs, ot_rf, ot_ucd, ot_ucs]; omega)) dX10_text_166 ?_
        refine tt_iinc X dX10_text_167 rfl (by decide) ?_
        refine tt_goto X 127 dX10_text_170 (by decide) ?_
        refine tt_loc [(0, _), (1, _), (2, _)] ⟨rfl, rfl, rfl, trivial⟩ ?_
        refine tt_gen (fun σ2 e2 => ?_)
        exact ihJ (σ2, c1 + 1) ⟨cp2_next hJ.1 (by omega) e2, by omega⟩ (by show 400 - (c1 + 1) < 400 - c1; omega)
    · have hlI := hI.2
      refine tt_aload_n X rfl dX10_text_74 ?_
      refine tt_getr X fX10_53 (k_60 _ _) (by decide) ⟨nofun, nofun⟩ rfl dX10_text_75 ?_
      refine tt_iload_n X rfl dX10_text_78 ?_
      refine tt_aload_n X rfl dX10_text_79 ?_
      refine tt_getr X fX10_53 (k_60 _ _) (by decide) ⟨nofun, nofun⟩ rfl dX10_text_80 ?_
      refine tt_bipush X (by decide) dX10_text_83 ?_
      refine tt_iload_n X rfl dX10_text_85 ?_
      refine tt_iadd X dX10_text_86 ?_
      refine tt_iaload X (k_74 _ _) (by first | omega | (simp (disch := decide) only [ot_rd, ot_rs, ot_rf, ot_ucd, ot_ucs]; omega)) dX10_text_87 ?_
      try simp (disch := decide) only [ot_rd, ot_rs, ot_rf, ot_ucd, ot_ucs]
      refine tt_iastore X (k_74 _ _) (by first | omega | (simp (disch := decide) only [ot_rd, ot_rs, ot_rf, ot_ucd, ot_ucs]; omega)) dX10_text_88 ?_
      refine tt_aload_n X rfl dX10_text_89 ?_
      refine tt_getr X fX10_56 (k_60 _ _) (by decide) ⟨nofun, nofun⟩ rfl dX10_text_90 ?_
      refine tt_iload_n X rfl dX10_text_93 ?_
      refine tt_aload_n X rfl dX10_text_94 ?_
      refine tt_getr X fX10_56 (k_60 _ _) (by decide) ⟨nofun, nofun⟩ rfl dX10_text_95 ?_
      refine tt_bipush X (by decide) dX10_text_98 ?_
      refine tt_iload_n X rfl dX10_text_100 ?_
      refine tt_iadd X dX10_text_101 ?_
      refine tt_iaload X (k_75 _ _) (by first | omega | (simp (disch := decide) only [ot_rd, ot_rs, ot_rf, ot_ucd, ot_ucs]; omega)) dX10_text_102 ?_
      try simp (disch := decide) only [ot_rd, ot_rs, ot_rf, ot_ucd, ot_ucs]
      refine tt_iastore X (k_75 _ _) (by first | omega | (simp (disch := decide) only [ot_rd, ot_rs, ot_rf, ot_ucd, ot_ucs]; omega)) dX10_text_103 ?_
      refine tt_aload_n X rfl dX10_text_104 ?_
      refine tt_getr X fX10_59 (k_60 _ _) (by decide) ⟨nofun, nofun⟩ rfl dX10_text_105 ?_
      refine tt_iload_n X rfl dX10_text_108 ?_
      refine tt_aload_n X rfl dX10_text_109 ?_
      refine tt_getr X fX10_59 (k_60 _ _) (by decide) ⟨nofun, nofun⟩ rfl dX10_text_110 ?_
      refine tt_bipush X (by decide) dX10_text_113 ?_
      refine tt_iload_n X rfl dX10_text_115 ?_
      refine tt_iadd X dX10_text_116 ?_
      refine tt_iaload X (k_76 _ _) (by first | omega | (simp (disch := decide) only [ot_rd, ot_rs, ot_rf, ot_ucd, ot_ucs]; omega)) dX10_text_117 ?_
      try simp (disch := decide) only [ot_rd, ot_rs, ot_rf, ot_ucd, ot_ucs]
      refine tt_iastore X (k_76 _ _) (by first | omega | (simp (disch := decide) only [ot_rd, ot_rs, ot_rf, ot_ucd, ot_ucs]; omega)) dX10_text_118 ?_
      refine tt_iinc X dX10_text_119 rfl (by decide) ?_
      refine tt_goto X 69 dX10_text_122 (by decide) ?_
      refine tt_loc [(0, _), (1, _), (2, _)] ⟨rfl, rfl, rfl, trivial⟩ ?_
      refine tt_gen (fun σ2 e2 => ?_)
      exact ih (σ2, l1 + 1) ⟨cp3_next hI.1 (by omega) e2, by omega⟩ (by show 16 - (l1 + 1) < 16 - l1; omega)
  · refine tt_aload_n X rfl dX10_text_49 ?_
    refine tt_aload_n X rfl dX10_text_50 ?_
    refine tt_geti X fX10_164 (k_60 _ _) (by decide) (Or.inl rfl) dX10_text_51 ?_
    try simp (disch := decide) only [ot_rd, ot_rs, ot_rf, ot_ucd, ot_ucs]
    refine tt_puti X fX10_217 kc_10 (k_60 _ _) (by decide) (fun q hq => by cases hq; rfl) rfl dX10_text_54 ?_
    refine tt_aload_n X rfl dX10_text_57 ?_
    refine tt_aload_n X rfl dX10_text_58 ?_
    refine tt_geti X fX10_167 (k_60 _ _) (by decide) (Or.inl rfl) dX10_text_59 ?_
    try simp (disch := decide) only [ot_rd, ot_rs, ot_rf, ot_ucd, ot_ucs]
    refine tt_puti X fX10_71 kc_10 (k_60 _ _) (by decide) (fun q hq => by cases hq; rfl) rfl dX10_text_62 ?_
    refine tt_iconst X dX10_text_65 ?_
    refine tt_iret X ⟨hr.1, hr.2.1⟩ (by decide) (by decide) dX10_text_66 ?_
    obtain ⟨f, hff⟩ : ∃ f, tr = .inl f := by
      cases tr with
      | inl f => exact ⟨f, rfl⟩
      | inr ls => exact absurd hro.1 (by omega)
    subst hff
    obtain ⟨hz, hb, hl3, hl7, h33, h34, _⟩ := hro
    refine ⟨rfl, fun k a1 a2 => ?_, fun i a => ?_, ?_, ?_, .inl f, htr, rfl, ?_, ?_, ?_, fun i hi => ?_, fun i hi => ?_⟩
    · rw [← hk35 k a1 a2]; funext i; simp [ot_up, a1]
    · rw [← hf35 i a.1 a.2.2.2.1 a.2.2.2.2]
      have a17 := a.2.1
      have a35 := a.2.2.2.1
      have a36 := a.2.2.2.2
      simp [ot_up, a17, a35, a36]
    · simp [ot_up]
    · have := hb35.2
      simpa [ot_up] using this
    · rw [← h33]; simp [ot_up]
    · rw [← h34]; simp [ot_up]
    · rw [← hf35 23 ⟨by decide, by decide, by decide, by decide, by decide, by decide, by decide, by decide, by decide⟩ (by decide) (by decide)]; simp [ot_up]
    · have h1 := hl3 i hi
      rw [e31, rqM_o (by decide), rqM_o (by decide), rqM_o (by decide), hk1 74 (by decide), hk1 75 (by decide), hk1 76 (by decide)] at h1
      rw [← h1.1, ← h1.2.1, ← h1.2.2]
      refine ⟨?_, ?_, ?_⟩ <;> simp [ot_up]
    · have h1 := hl7 i hi
      rw [e31, rqM_o (by decide), rqM_o (by decide), hk1 77 (by decide), hk1 78 (by decide)] at h1
      rw [← h1.1, ← h1.2]
      refine ⟨?_, ?_⟩ <;> simp [ot_up]

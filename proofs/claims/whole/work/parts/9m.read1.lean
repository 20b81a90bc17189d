def rdM (μ : ot_M) (j t c f p : Int) (F : Int → Int) : ot_M := ot_uc (ot_up (ot_up (ot_up (ot_up (ot_up μ 49 5 j) 49 6 t) 49 7 c) 49 8 f) 49 9 p) 51 F
theorem rdM_o {μ : ot_M} {j t c f p : Int} {F : Int → Int} {k : Nat} (h : k ≠ 49) (h2 : k ≠ 51) : rdM μ j t c f p F k = μ k := by
  funext i
  simp [rdM, ot_up, ot_uc, h, h2]
theorem rdM_4 {μ : ot_M} {j t c f p : Int} {F : Int → Int} : rdM μ j t c f p F 49 4 = μ 49 4 := by simp [rdM, ot_up, ot_uc]
theorem rdM_5 {μ : ot_M} {j t c f p : Int} {F : Int → Int} : rdM μ j t c f p F 49 5 = j := by simp [rdM, ot_up, ot_uc]
theorem rdM_6 {μ : ot_M} {j t c f p : Int} {F : Int → Int} : rdM μ j t c f p F 49 6 = t := by simp [rdM, ot_up, ot_uc]
theorem rdM_7 {μ : ot_M} {j t c f p : Int} {F : Int → Int} : rdM μ j t c f p F 49 7 = c := by simp [rdM, ot_up, ot_uc]
theorem rdM_8 {μ : ot_M} {j t c f p : Int} {F : Int → Int} : rdM μ j t c f p F 49 8 = f := by simp [rdM, ot_up, ot_uc]
theorem rdM_9 {μ : ot_M} {j t c f p : Int} {F : Int → Int} : rdM μ j t c f p F 49 9 = p := by simp [rdM, ot_up, ot_uc]
theorem rdM_51 {μ : ot_M} {j t c f p : Int} {F : Int → Int} : rdM μ j t c f p F 51 = F := by simp [rdM, ot_uc]
theorem rdM_ext {μ σ : ot_M} {j t c f p : Int} {F : Int → Int} (h : ∀ k, k ≠ 49 → k ≠ 51 → σ k = μ k) (h1 : ∀ i, i ≠ 5 → i ≠ 6 → i ≠ 7 → i ≠ 8 → i ≠ 9 → σ 49 i = μ 49 i) (a5 : σ 49 5 = j) (a6 : σ 49 6 = t) (a7 : σ 49 7 = c) (a8 : σ 49 8 = f) (a9 : σ 49 9 = p) (aF : σ 51 = F) : σ = rdM μ j t c f p F := by
  funext k i
  by_cases w : k = 49
  · subst w
    by_cases w5 : i = 5
    · subst w5; rw [rdM_5, a5]
    · by_cases w6 : i = 6
      · subst w6; rw [rdM_6, a6]
      · by_cases w7 : i = 7
        · subst w7; rw [rdM_7, a7]
        · by_cases w8 : i = 8
          · subst w8; rw [rdM_8, a8]
          · by_cases w9 : i = 9
            · subst w9; rw [rdM_9, a9]
            · rw [h1 i w5 w6 w7 w8 w9]
              simp [rdM, ot_up, ot_uc, w5, w6, w7, w8, w9]
  · by_cases w2 : k = 51
    · subst w2; rw [rdM_51, aF]
    · rw [rdM_o w w2, h k w w2]
def gTk (μ : ot_M) (K : Nat) (tk vl pl : Nat → Int) : Prop := K ≤ 400 ∧ μ 49 4 = (K : Int) + 1 ∧ (∀ u : Nat, u ≤ K → μ 55 (u : Int) = tk u ∧ μ 56 (u : Int) = pl u ∧ (tk u = 20 → μ 57 (u : Int) = vl u)) ∧ tk K = 21 ∧ (∀ u, u < K → tk u ≠ 21) ∧ (∀ u, 0 ≤ tk u ∧ tk u ≤ 62) ∧ ∀ u, 0 ≤ vl u ∧ vl u ≤ 9999
def cdF (b : Nat) (cs : CL) (F : Int → Int) : Prop := ∀ (i : Nat) (x : Int × Int), cs[i]? = some x → F ((b + i : Nat) : Int) = enc x.1 x.2
def stC (μ : ot_M) (tk pl : Nat → Int) (K b : Nat) (F0 : Int → Int) (r : RS) (σ : ot_M) : Prop := match r with
  | .inl q => ∃ (c : Int) (F : Int → Int), σ = rdM μ (q.2 : Int) 22 c q.1 (pl q.2) F ∧ (0 ≤ c ∧ c ≤ 400) ∧ q.2 ≤ K ∧ (1 ≤ q.1 ∧ q.1 ≤ 3)
  | .inr q => ∃ F : Int → Int, σ = rdM μ (q.1 : Int) (tk q.1) ((b + q.2.length : Nat) : Int) 0 (-1) F ∧ q.1 ≤ K ∧ b + q.2.length ≤ 400 ∧ cdF b q.2 F ∧ ∀ i : Int, 0 ≤ i → i < (b : Int) → F i = F0 i
def toR (tk : Nat → Int) (r : RS) : Int := match r with
  | .inl _ => 22
  | .inr q => tk q.1
def stR (r : RS) : RS := match r with
  | .inl f => .inl f
  | .inr q => .inr (q.1 + 1, q.2)
def rfR (k : Int) (r : RS) : RS := match r with
  | .inl f => .inl f
  | .inr q => .inl (k, q.1)
def emR (x : Int × Int) (r : RS) : RS := match r with
  | .inl f => .inl f
  | .inr q => .inr (q.1, q.2 ++ [x])
section RD
variable {μ : ot_M} {tk vl pl : Nat → Int} {K b : Nat} {F0 : Int → Int} {r : RS} {σ σ2 : ot_M}
theorem stC_tok (h : stC μ tk pl K b F0 r σ) : σ 49 6 = toR tk r := by
  cases r with
  | inl q => obtain ⟨c, F, e, _⟩ := h; rw [e, rdM_6]; rfl
  | inr q => obtain ⟨F, e, _⟩ := h; rw [e, rdM_6]; rfl
theorem toR_rng (hg : gTk μ K tk vl pl) : 0 ≤ toR tk r ∧ toR tk r ≤ 62 := by
  cases r with
  | inl q => show 0 ≤ (22 : Int) ∧ (22 : Int) ≤ 62; decide
  | inr q => exact hg.2.2.2.2.2.1 q.1
theorem toR_in (h : toR tk r ≠ 22) : ∃ q, r = .inr q := by
  cases r with
  | inl q => exact absurd rfl h
  | inr q => exact ⟨q, rfl⟩
theorem stC_o (h : stC μ tk pl K b F0 r σ) {k : Nat} (h1 : k ≠ 49) (h2 : k ≠ 51) : σ k = μ k := by
  cases r with
  | inl q => obtain ⟨c, F, e, _⟩ := h; rw [e, rdM_o h1 h2]
  | inr q => obtain ⟨F, e, _⟩ := h; rw [e, rdM_o h1 h2]
theorem stC_4 (h : stC μ tk pl K b F0 r σ) : σ 49 4 = μ 49 4 := by
  cases r with
  | inl q => obtain ⟨c, F, e, _⟩ := h; rw [e, rdM_4]
  | inr q => obtain ⟨F, e, _⟩ := h; rw [e, rdM_4]
theorem stC_5 (h : stC μ tk pl K b F0 r σ) : 0 ≤ σ 49 5 ∧ σ 49 5 ≤ (K : Int) := by
  cases r with
  | inl q => obtain ⟨c, F, e, _, hk, _⟩ := h; rw [e, rdM_5]; omega
  | inr q => obtain ⟨F, e, hk, _⟩ := h; rw [e, rdM_5]; omega
theorem stC_7 (h : stC μ tk pl K b F0 r σ) : 0 ≤ σ 49 7 ∧ σ 49 7 ≤ 400 := by
  cases r with
  | inl q => obtain ⟨c, F, e, hc, _⟩ := h; rw [e, rdM_7]; exact hc
  | inr q => obtain ⟨F, e, _, hc, _⟩ := h; rw [e, rdM_7]; omega
theorem stC_8 (h : stC μ tk pl K b F0 r σ) : 0 ≤ σ 49 8 ∧ σ 49 8 ≤ 3 := by
  cases r with
  | inl q => obtain ⟨c, F, e, _, _, hf⟩ := h; rw [e, rdM_8]; omega
  | inr q => obtain ⟨F, e, _⟩ := h; rw [e, rdM_8]; decide
theorem stC_at {q : Nat × CL} (h : stC μ tk pl K b F0 (.inr q) σ) : σ 49 5 = (q.1 : Int) ∧ q.1 ≤ K ∧ σ 49 8 = 0 := by
  obtain ⟨F, e, hk, _⟩ := h
  rw [e, rdM_5, rdM_8]
  exact ⟨rfl, hk, rfl⟩
theorem stC_step (hg : gTk μ K tk vl pl) (h : stC μ tk pl K b F0 r σ) (hne : toR tk r ≠ 21) (e : σ2 = if σ 49 8 = 0 ∧ σ 49 5 < σ 49 4 - 1 then ot_up (ot_up σ 49 5 (σ 49 5 + 1)) 49 6 (σ 55 (σ 49 5 + 1)) else σ) : stC μ tk pl K b F0 (stR r) σ2 := by
  cases r with
  | inl q =>
    have h2 := h
    obtain ⟨c, F, e1, hc, hk, hf⟩ := h2
    have : σ2 = σ := by
      rw [e, if_neg]
      rw [e1, rdM_8]
      omega
    rw [this]
    exact h
  | inr q =>
    obtain ⟨F, e1, hk, hc, hcd, hF⟩ := h
    have hkK : q.1 < K := by
      apply Classical.byContradiction
      intro w
      have hq : q.1 = K := by omega
      exact hne (by show tk q.1 = 21; rw [hq]; exact hg.2.2.2.1)
    have h4 := hg.2.1
    refine ⟨F, ?_, hkK, hc, hcd, hF⟩
    rw [e, if_pos (by rw [e1, rdM_8, rdM_5, rdM_4]; omega)]
    have h55 := (hg.2.2.1 (q.1 + 1) hkK).1
    refine rdM_ext (fun k w1 w2 => ?_) (fun i w5 w6 w7 w8 w9 => ?_) ?_ ?_ ?_ ?_ ?_ ?_
    · rw [e1]; funext i; simp [rdM, ot_up, ot_uc, w1, w2]
    · rw [e1]; simp [rdM, ot_up, ot_uc, w5, w6, w7, w8, w9]
    · rw [e1]; simp [rdM, ot_up, ot_uc]
    · show (ot_up (ot_up σ 49 5 (σ 49 5 + 1)) 49 6 (σ 55 (σ 49 5 + 1))) 49 6 = tk (q.1 + 1)
      rw [← h55, e1, rdM_5, rdM_o (k := 55) (by decide) (by decide)]
      simp [ot_up]
    · rw [e1]; simp [rdM, ot_up, ot_uc]
    · rw [e1]; simp [rdM, ot_up, ot_uc]
    · rw [e1]; simp [rdM, ot_up, ot_uc]
    · rw [e1]; funext i; simp [rdM, ot_up, ot_uc]
theorem stC_ref (hg : gTk μ K tk vl pl) (h : stC μ tk pl K b F0 r σ) {k : Int} (hk1 : 1 ≤ k ∧ k ≤ 3) (e : σ2 = if σ 49 8 = 0 then ot_up (ot_up (ot_up σ 49 8 k) 49 9 (σ 56 (σ 49 5))) 49 6 22 else σ) : stC μ tk pl K b F0 (rfR k r) σ2 := by
  cases r with
  | inl q =>
    have h2 := h
    obtain ⟨c, F, e1, hc, hk, hf⟩ := h2
    have : σ2 = σ := by
      rw [e, if_neg]
      rw [e1, rdM_8]
      omega
    rw [this]
    exact h
  | inr q =>
    obtain ⟨F, e1, hk, hc, hcd, hF⟩ := h
    refine ⟨((b + q.2.length : Nat) : Int), F, ?_, by omega, hk, hk1⟩
    rw [e, if_pos (by rw [e1, rdM_8])]
    have h56 := (hg.2.2.1 q.1 hk).2.1
    refine rdM_ext (fun k w1 w2 => ?_) (fun i w5 w6 w7 w8 w9 => ?_) ?_ ?_ ?_ ?_ ?_ ?_
    · rw [e1]; funext i; simp [rdM, ot_up, ot_uc, w1, w2]
    · rw [e1]; simp [rdM, ot_up, ot_uc, w5, w6, w7, w8, w9]
    · rw [e1]; simp [rdM, ot_up, ot_uc]
    · rw [e1]; simp [rdM, ot_up, ot_uc]
    · rw [e1]; simp [rdM, ot_up, ot_uc]
    · rw [e1]; simp [rdM, ot_up, ot_uc]
    · show (ot_up (ot_up (ot_up σ 49 8 k) 49 9 (σ 56 (σ 49 5))) 49 6 22) 49 9 = pl q.1
      rw [← h56, e1, rdM_5, rdM_o (k := 56) (by decide) (by decide)]
      simp [ot_up]
    · rw [e1]; funext i; simp [rdM, ot_up, ot_uc]
theorem stC_emit (h : stC μ tk pl K b F0 r σ) {x : Int × Int} {v : Int} (hv : ∀ q, r = .inr q → v = enc x.1 x.2 ∧ b + q.2.length < 400) (e : σ2 = if σ 49 7 < 400 then ot_up (ot_up σ 51 (σ 49 7) v) 49 7 (σ 49 7 + 1) else σ) : stC μ tk pl K b F0 (emR x r) σ2 := by
  cases r with
  | inl q =>
    have h2 := h
    obtain ⟨c, F, e1, hc, hk, hf⟩ := h2
    by_cases w : c < 400
    · refine ⟨c + 1, up1 F c v, ?_, by omega, hk, hf⟩
      rw [e, if_pos (by rw [e1, rdM_7]; exact w)]
      refine rdM_ext (fun k w1 w2 => ?_) (fun i w5 w6 w7 w8 w9 => ?_) ?_ ?_ ?_ ?_ ?_ ?_
      · rw [e1]; funext i; simp [rdM, ot_up, ot_uc, w1, w2]
      · rw [e1]; simp [rdM, ot_up, ot_uc, w5, w6, w7, w8, w9]
      · rw [e1]; simp [rdM, ot_up, ot_uc]
      · rw [e1]; simp [rdM, ot_up, ot_uc]
      · rw [e1]; simp [rdM, ot_up, ot_uc]
      · rw [e1]; simp [rdM, ot_up, ot_uc]
      · rw [e1]; simp [rdM, ot_up, ot_uc]
      · rw [e1]; funext i; simp [rdM, ot_up, ot_uc, up1]
    · have : σ2 = σ := by
        rw [e, if_neg]
        rw [e1, rdM_7]
        exact w
      rw [this]
      exact h
  | inr q =>
    obtain ⟨F, e1, hk, hc, hcd, hF⟩ := h
    obtain ⟨hv1, hv2⟩ := hv q rfl
    refine ⟨up1 F ((b + q.2.length : Nat) : Int) v, ?_, hk, ?_, ?_, ?_⟩
    · rw [e, if_pos (by rw [e1, rdM_7]; omega)]
      refine rdM_ext (fun k w1 w2 => ?_) (fun i w5 w6 w7 w8 w9 => ?_) ?_ ?_ ?_ ?_ ?_ ?_
      · rw [e1]; funext i; simp [rdM, ot_up, ot_uc, w1, w2]
      · rw [e1]; simp [rdM, ot_up, ot_uc, w5, w6, w7, w8, w9]
      · rw [e1]; simp [rdM, ot_up, ot_uc]
      · rw [e1]; simp [rdM, ot_up, ot_uc]
      · rw [e1]
        show _ = ((b + (q.2 ++ [x]).length : Nat) : Int)
        simp [rdM, ot_up, ot_uc]
        omega
      · rw [e1]; simp [rdM, ot_up, ot_uc]
      · rw [e1]; simp [rdM, ot_up, ot_uc]
      · rw [e1]; funext i; simp [rdM, ot_up, ot_uc, up1]
    · show b + (q.2 ++ [x]).length ≤ 400
      simp
      omega
    · intro i y hy
      show up1 F ((b + q.2.length : Nat) : Int) v ((b + i : Nat) : Int) = _
      replace hy : (q.2 ++ [x])[i]? = some y := hy
      by_cases w : i < q.2.length
      · rw [List.getElem?_append_left w] at hy
        rw [up1_n (by omega)]
        exact hcd i y hy
      · rw [List.getElem?_append_right (by omega)] at hy
        have hi : i - q.2.length = 0 := by
          apply Classical.byContradiction
          intro w2
          rw [List.getElem?_eq_none (by simp; omega)] at hy
          cases hy
        rw [hi] at hy
        cases hy
        rw [show i = q.2.length by omega, up1_s]
        exact hv1
    · intro i i1 i2
      show up1 F ((b + q.2.length : Nat) : Int) v i = F0 i
      rw [up1_n (by omega)]
      exact hF i i1 i2
end RD
set_option maxRecDepth 100000 in
set_option maxHeartbeats 1000000 in
theorem c_step (l : Launch) (g : ot_G) (ln : Nat) (ext : ot_L) (μ : ot_M) (h8 : 0 ≤ μ 49 8 ∧ μ 49 8 ≤ 3) (h5 : 0 ≤ μ 49 5 ∧ μ 49 5 ≤ 400) (h4 : 0 ≤ μ 49 4 ∧ μ 49 4 ≤ 401)  : ot_C l g yX4_step cX4_step 1 none 0 0 0 [.inr 49] (LL ln ext) μ (ot_pv (fun L2 μ2 => L2 = LL ln ext ∧ μ2 = if μ 49 8 = 0 ∧ μ 49 5 < μ 49 4 - 1 then ot_up (ot_up μ 49 5 (μ 49 5 + 1)) 49 6 (μ 55 (μ 49 5 + 1)) else μ)) := by
  refine ot_enter (by decide) (Nat.le_of_ble_eq_true rfl) ?_
  intro p e s m args below meth c X hr
  refine tt_aload_n X rfl dX4_step_0 ?_
  refine tt_geti X fX4_45 (k_49 _ _) (by decide) (Or.inl rfl) dX4_step_1 ?_
  refine tt_if_ne X 43 (by omega) dX4_step_4 (by decide) (fun b4 => ?_) (fun b4 => ?_)
  · refine tt_vret X ⟨hr.1, hr.2.1⟩ (by decide) (by decide) dX4_step_43 ?_
    refine ⟨rfl, ?_⟩
    first | rw [if_pos (by omega)] | rw [if_neg (by omega)]
  · refine tt_aload_n X rfl dX4_step_7 ?_
    refine tt_geti X fX4_51 (k_49 _ _) (by decide) (Or.inl rfl) dX4_step_8 ?_
    refine tt_aload_n X rfl dX4_step_11 ?_
    refine tt_geti X fX4_60 (k_49 _ _) (by decide) (Or.inl rfl) dX4_step_12 ?_
    refine tt_iconst X dX4_step_15 ?_
    refine tt_isub X dX4_step_16 ?_
    refine tt_icmp_ge X 43 (by omega) dX4_step_17 (by decide) (fun b17 => ?_) (fun b17 => ?_)
    · refine tt_vret X ⟨hr.1, hr.2.1⟩ (by decide) (by decide) dX4_step_43 ?_
      refine ⟨rfl, ?_⟩
      first | rw [if_pos (by omega)] | rw [if_neg (by omega)]
    · refine tt_aload_n X rfl dX4_step_20 ?_
      refine tt_dup X dX4_step_21 ?_
      refine tt_geti X fX4_51 (k_49 _ _) (by decide) (Or.inl rfl) dX4_step_22 ?_
      refine tt_iconst X dX4_step_25 ?_
      refine tt_iadd X dX4_step_26 ?_
      refine tt_puti X fX4_51 kc_4 (k_49 _ _) (by decide) (fun q hq => by cases hq; rfl) rfl dX4_step_27 ?_
      refine tt_aload_n X rfl dX4_step_30 ?_
      refine tt_aload_n X rfl dX4_step_31 ?_
      refine tt_getr X fX4_18 (k_49 _ _) (by decide) ⟨nofun, nofun⟩ rfl dX4_step_32 ?_
      refine tt_aload_n X rfl dX4_step_35 ?_
      refine tt_geti X fX4_51 (k_49 _ _) (by decide) (Or.inl rfl) dX4_step_36 ?_
      try simp (disch := decide) only [ot_rd, ot_rs, ot_rf, ot_ucd, ot_ucs]
      refine tt_iaload X (k_55 _ _) (by first | omega | (simp (disch := decide) only [ot_rd, ot_rs, ot_rf, ot_ucd, ot_ucs]; omega)) dX4_step_39 ?_
      try simp (disch := decide) only [ot_rd, ot_rs, ot_rf, ot_ucd, ot_ucs]
      refine tt_puti X fX4_54 kc_4 (k_49 _ _) (by decide) (fun q hq => by cases hq; rfl) rfl dX4_step_40 ?_
      refine tt_vret X ⟨hr.1, hr.2.1⟩ (by decide) (by decide) dX4_step_43 ?_
      refine ⟨rfl, ?_⟩
      first | rw [if_pos (by omega)] | rw [if_neg (by omega)]
set_option maxRecDepth 100000 in
set_option maxHeartbeats 1000000 in
theorem c_refuse (l : Launch) (g : ot_G) (ln : Nat) (ext : ot_L) (μ : ot_M) (k : Int) (h8 : 0 ≤ μ 49 8 ∧ μ 49 8 ≤ 3) (h5 : 0 ≤ μ 49 5 ∧ μ 49 5 ≤ 400)  : ot_C l g yX4_refuse cX4_refuse 2 none 0 0 0 [.inr 49, .inl k] (LL ln ext) μ (ot_pv (fun L2 μ2 => L2 = LL ln ext ∧ μ2 = if μ 49 8 = 0 then ot_up (ot_up (ot_up μ 49 8 k) 49 9 (μ 56 (μ 49 5))) 49 6 22 else μ)) := by
  refine ot_enter (by decide) (Nat.le_of_ble_eq_true rfl) ?_
  intro p e s m args below meth c X hr
  refine tt_aload_n X rfl dX4_refuse_0 ?_
  refine tt_geti X fX4_45 (k_49 _ _) (by decide) (Or.inl rfl) dX4_refuse_1 ?_
  refine tt_if_ne X 31 (by omega) dX4_refuse_4 (by decide) (fun b4 => ?_) (fun b4 => ?_)
  · refine tt_vret X ⟨hr.1, hr.2.1⟩ (by decide) (by decide) dX4_refuse_31 ?_
    refine ⟨rfl, ?_⟩
    first | rw [if_pos (by omega)] | rw [if_neg (by omega)]
  · refine tt_aload_n X rfl dX4_refuse_7 ?_
    refine tt_iload_n X rfl dX4_refuse_8 ?_
    refine tt_puti X fX4_45 kc_4 (k_49 _ _) (by decide) (fun q hq => by cases hq; rfl) rfl dX4_refuse_9 ?_
    refine tt_aload_n X rfl dX4_refuse_12 ?_
    refine tt_aload_n X rfl dX4_refuse_13 ?_
    refine tt_getr X fX4_22 (k_49 _ _) (by decide) ⟨nofun, nofun⟩ rfl dX4_refuse_14 ?_
    refine tt_aload_n X rfl dX4_refuse_17 ?_
    refine tt_geti X fX4_51 (k_49 _ _) (by decide) (Or.inl rfl) dX4_refuse_18 ?_
    try simp (disch := decide) only [ot_rd, ot_rs, ot_rf, ot_ucd, ot_ucs]
    refine tt_iaload X (k_56 _ _) (by first | omega | (simp (disch := decide) only [ot_rd, ot_rs, ot_rf, ot_ucd, ot_ucs]; omega)) dX4_refuse_21 ?_
    try simp (disch := decide) only [ot_rd, ot_rs, ot_rf, ot_ucd, ot_ucs]
    refine tt_puti X fX4_48 kc_4 (k_49 _ _) (by decide) (fun q hq => by cases hq; rfl) rfl dX4_refuse_22 ?_
    refine tt_aload_n X rfl dX4_refuse_25 ?_
    refine tt_bipush X (by decide) dX4_refuse_26 ?_
    refine tt_puti X fX4_54 kc_4 (k_49 _ _) (by decide) (fun q hq => by cases hq; rfl) rfl dX4_refuse_28 ?_
    refine tt_vret X ⟨hr.1, hr.2.1⟩ (by decide) (by decide) dX4_refuse_31 ?_
    refine ⟨rfl, ?_⟩
    first | rw [if_pos (by omega)] | rw [if_neg (by omega)]
set_option maxRecDepth 100000 in
set_option maxHeartbeats 1000000 in
theorem c_emit (l : Launch) (g : ot_G) (ln : Nat) (ext : ot_L) (μ : ot_M) (v : Int) (h7 : 0 ≤ μ 49 7 ∧ μ 49 7 ≤ 400)  : ot_C l g yX4_emit cX4_emit 2 none 0 0 0 [.inr 49, .inl v] (LL ln ext) μ (ot_pv (fun L2 μ2 => L2 = LL ln ext ∧ μ2 = if μ 49 7 < 400 then ot_up (ot_up μ 51 (μ 49 7) v) 49 7 (μ 49 7 + 1) else μ)) := by
  refine ot_enter (by decide) (Nat.le_of_ble_eq_true rfl) ?_
  intro p e s m args below meth c X hr
  refine tt_aload_n X rfl dX4_emit_0 ?_
  refine tt_geti X fX4_42 (k_49 _ _) (by decide) (Or.inl rfl) dX4_emit_1 ?_
  refine tt_sipush X (by decide) dX4_emit_4 ?_
  refine tt_icmp_ge X 33 (by omega) dX4_emit_7 (by decide) (fun b7 => ?_) (fun b7 => ?_)
  · refine tt_vret X ⟨hr.1, hr.2.1⟩ (by decide) (by decide) dX4_emit_33 ?_
    refine ⟨rfl, ?_⟩
    first | rw [if_pos (by omega)] | rw [if_neg (by omega)]
  · refine tt_aload_n X rfl dX4_emit_10 ?_
    refine tt_getr X fX4_12 (k_49 _ _) (by decide) ⟨nofun, nofun⟩ rfl dX4_emit_11 ?_
    refine tt_getr X fX4_102 (k_50 _ _) (by decide) ⟨nofun, nofun⟩ rfl dX4_emit_14 ?_
    refine tt_aload_n X rfl dX4_emit_17 ?_
    refine tt_geti X fX4_42 (k_49 _ _) (by decide) (Or.inl rfl) dX4_emit_18 ?_
    refine tt_iload_n X rfl dX4_emit_21 ?_
    refine tt_iastore X (k_51 _ _) (by omega) dX4_emit_22 ?_
    refine tt_aload_n X rfl dX4_emit_23 ?_
    refine tt_dup X dX4_emit_24 ?_
    refine tt_geti X fX4_42 (k_49 _ _) (by decide) (Or.inl rfl) dX4_emit_25 ?_
    try simp (disch := decide) only [ot_rd, ot_rs, ot_rf, ot_ucd, ot_ucs]
    refine tt_iconst X dX4_emit_28 ?_
    refine tt_iadd X dX4_emit_29 ?_
    refine tt_puti X fX4_42 kc_4 (k_49 _ _) (by decide) (fun q hq => by cases hq; rfl) rfl dX4_emit_30 ?_
    refine tt_vret X ⟨hr.1, hr.2.1⟩ (by decide) (by decide) dX4_emit_33 ?_
    refine ⟨rfl, ?_⟩
    first | rw [if_pos (by omega)] | rw [if_neg (by omega)]

/-! the other reader's state -/
def qB (μb σ : ot_M) : Prop := (∀ k, k ≠ 60 → k ≠ 77 → k ≠ 78 → σ k = μb k) ∧ ∀ i, i ≠ 18 → i ≠ 19 → i ≠ 20 → i ≠ 21 → i ≠ 29 → i ≠ 33 → i ≠ 34 → σ 60 i = μb 60 i
def spT (T : Nat → Int) (n j : Nat) : Nat := if psN T n j < n then enN T n (psN T n j) else n
def cdQ (b : Nat) (cs : CL) (f h : Int → Int) : Prop := ∀ (i : Nat) (x : Int × Int), cs[i]? = some x → f (400 + ((b + i : Nat) : Int)) = x.1 ∧ h (400 + ((b + i : Nat) : Int)) = x.2
def qS (T : Nat → Int) (n : Nat) (μb : ot_M) (b : Nat) (f0 h0 : Int → Int) (q : Nat × CL) (σ : ot_M) : Prop := qB μb σ ∧ σ 60 18 = (spT T n q.1 : Int) ∧ σ 60 19 = (psN T n q.1 : Int) ∧ tqR T n (psN T n q.1) (σ 60 20) (σ 60 21) ∧ (-1 ≤ σ 60 21 ∧ σ 60 21 ≤ 99999) ∧ σ 60 29 = ((b + q.2.length : Nat) : Int) ∧ cdQ b q.2 (σ 77) (σ 78) ∧ ∀ i : Int, i < 400 + (b : Int) → σ 77 i = f0 i ∧ σ 78 i = h0 i
def qF (T : Nat → Int) (n : Nat) (μb : ot_M) (f0 h0 : Int → Int) (f : Int × Nat) (σ : ot_M) : Prop := qB μb σ ∧ σ 60 33 = f.1 ∧ σ 60 34 = (psN T n f.2 : Int) ∧ (-1 ≤ σ 60 21 ∧ σ 60 21 ≤ 99999) ∧ ∀ i : Int, i < 400 → σ 77 i = f0 i ∧ σ 78 i = h0 i
def qR (T : Nat → Int) (n : Nat) (μb : ot_M) (b : Nat) (f0 h0 : Int → Int) (o : RS) (r : Int) (σ : ot_M) : Prop := match o with
  | .inl f => r = -1 ∧ qF T n μb f0 h0 f σ
  | .inr q => r = 0 ∧ qS T n μb b f0 h0 q σ
def qG (T : Nat → Int) (n : Nat) (μb : ot_M) : Prop := (∀ k : Nat, k < n → μb 72 (k : Int) = T k) ∧ (∀ k, 0 ≤ T k ∧ T k ≤ 255) ∧ n ≤ 400 ∧ μb 60 17 = (n : Int) ∧ gWd (μb 73)
section RQ1
variable {T : Nat → Int} {n : Nat} {μb : ot_M} {b : Nat} {f0 h0 : Int → Int} {q : Nat × CL} {σ σ2 : ot_M}
theorem tqR_20 {p : Nat} {t v : Int} (h : tqR T n p t v) : 0 ≤ t ∧ t ≤ 4 := by
  rcases h with h | h | h | h | h <;> omega
theorem spT_le (h : psN T n q.1 ≤ n) : spT T n q.1 ≤ n := by
  unfold spT
  split
  · rename_i w; exact (enN_ok w).2
  · exact Nat.le_refl _
theorem qS_reads (h : qS T n μb b f0 h0 q σ) (hlt : psN T n q.1 < n) {sp : Nat} {tk vl : Int} (e : σ2 = rqM σ (sp : Int) (skN T n (spT T n q.1) : Int) tk vl) (hsp : sp = if skN T n (spT T n q.1) < n then enN T n (skN T n (spT T n q.1)) else n) (ht : tqR T n (skN T n (spT T n q.1)) tk vl) (hv : vl = σ 60 21 ∨ (-1 ≤ vl ∧ vl ≤ 99999)) : qS T n μb b f0 h0 (q.1 + 1, q.2) σ2 := by
  obtain ⟨⟨a1, a2⟩, a3, a4, a5, a6, a7, a8, a9⟩ := h
  have hps : psN T n (q.1 + 1) = skN T n (spT T n q.1) := by
    rw [psN_s, if_pos hlt]
    unfold spT
    rw [if_pos hlt]
  subst e
  refine ⟨⟨fun k w1 w2 w3 => ?_, fun i w1 w2 w3 w4 w5 w6 w7 => ?_⟩, ?_, ?_, ?_, ?_, ?_, ?_, ?_⟩
  · rw [rqM_o w1]; exact a1 k w1 w2 w3
  · rw [rqM_f ⟨w1, w2, w3, w4⟩]; exact a2 i w1 w2 w3 w4 w5 w6 w7
  · rw [rqM_18]
    show (sp : Int) = (spT T n (q.1 + 1) : Int)
    unfold spT
    rw [hps, hsp]
  · rw [rqM_19]
    show _ = (psN T n (q.1 + 1) : Int)
    rw [hps]
  · rw [rqM_20, rqM_21]
    show tqR T n (psN T n (q.1 + 1)) tk vl
    rw [hps]
    exact ht
  · rw [rqM_21]; omega
  · rw [rqM_f (by decide)]; exact a7
  · rw [rqM_o (by decide), rqM_o (by decide)]; exact a8
  · rw [rqM_o (by decide), rqM_o (by decide)]; exact a9
theorem qS_emit (h : qS T n μb b f0 h0 q σ) {x : Int × Int} (e : σ2 = ot_up (ot_up (ot_up σ 77 (400 + σ 60 29) x.1) 78 (400 + σ 60 29) x.2) 60 29 (σ 60 29 + 1)) : qS T n μb b f0 h0 (q.1, q.2 ++ [x]) σ2 := by
  obtain ⟨⟨a1, a2⟩, a3, a4, a5, a6, a7, a8, a9⟩ := h
  subst e
  refine ⟨⟨fun k w1 w2 w3 => ?_, fun i w1 w2 w3 w4 w5 w6 w7 => ?_⟩, ?_, ?_, ?_, ?_, ?_, fun i y hy => ?_, fun i hi => ?_⟩
  · rw [← a1 k w1 w2 w3]; funext i; simp [ot_up, w1, w2, w3]
  · rw [← a2 i w1 w2 w3 w4 w5 w6 w7]; simp [ot_up, w5]
  · rw [← a3]; simp [ot_up]
  · rw [← a4]; simp [ot_up]
  · have e1 : ot_up (ot_up (ot_up σ 77 (400 + σ 60 29) x.1) 78 (400 + σ 60 29) x.2) 60 29 (σ 60 29 + 1) 60 20 = σ 60 20 := by simp [ot_up]
    have e2 : ot_up (ot_up (ot_up σ 77 (400 + σ 60 29) x.1) 78 (400 + σ 60 29) x.2) 60 29 (σ 60 29 + 1) 60 21 = σ 60 21 := by simp [ot_up]
    rw [e1, e2]; exact a5
  · have e2 : ot_up (ot_up (ot_up σ 77 (400 + σ 60 29) x.1) 78 (400 + σ 60 29) x.2) 60 29 (σ 60 29 + 1) 60 21 = σ 60 21 := by simp [ot_up]
    rw [e2]; exact a6
  · show _ = ((b + (q.2 ++ [x]).length : Nat) : Int)
    rw [List.length_append]
    simp [ot_up, a7]
    omega
  · replace hy : (q.2 ++ [x])[i]? = some y := hy
    rw [a7]
    by_cases w : i < q.2.length
    · rw [List.getElem?_append_left w] at hy
      have h1 := a8 i y hy
      have hne : (400 : Int) + ((b + i : Nat) : Int) ≠ 400 + ((b + q.2.length : Nat) : Int) := by omega
      rw [← h1.1, ← h1.2]
      refine ⟨?_, ?_⟩
      · show ot_up _ _ _ _ _ _ = _; simp only [ot_up]; simp [hne]; intro hc; omega
      · show ot_up _ _ _ _ _ _ = _; simp only [ot_up]; simp [hne]; intro hc; omega
    · rw [List.getElem?_append_right (by omega)] at hy
      have hi : i - q.2.length = 0 := by
        apply Classical.byContradiction
        intro w2
        rw [List.getElem?_eq_none (by simp; omega)] at hy
        cases hy
      rw [hi] at hy
      cases hy
      rw [show i = q.2.length by omega]
      exact ⟨by simp [ot_up], by simp [ot_up]⟩
  · have h1 := a9 i hi
    have hne : i ≠ 400 + σ 60 29 := by rw [a7]; omega
    rw [← h1.1, ← h1.2]
    exact ⟨by simp [ot_up, hne], by simp [ot_up, hne]⟩
theorem qS_err (h : qS T n μb b f0 h0 q σ) {k : Int} (e : σ2 = ot_up (ot_up σ 60 33 k) 60 34 (σ 60 19)) : qF T n μb f0 h0 (k, q.1) σ2 := by
  obtain ⟨⟨a1, a2⟩, a3, a4, a5, a6, a7, a8, a9⟩ := h
  subst e
  refine ⟨⟨fun k w1 w2 w3 => ?_, fun i w1 w2 w3 w4 w5 w6 w7 => ?_⟩, ?_, ?_, ?_, fun i hi => ?_⟩
  · rw [← a1 k w1 w2 w3]; funext i; simp [ot_up, w1]
  · rw [← a2 i w1 w2 w3 w4 w5 w6 w7]; simp [ot_up, w6, w7]
  · simp [ot_up]
  · rw [← a4]; simp [ot_up]
  · have e2 : ot_up (ot_up σ 60 33 k) 60 34 (σ 60 19) 60 21 = σ 60 21 := by simp [ot_up]
    rw [e2]; exact a6
  · have h1 := a9 i (by omega)
    rw [← h1.1, ← h1.2]
    exact ⟨by simp [ot_up], by simp [ot_up]⟩
theorem tq_lt {p : Nat} {t v : Int} (h : tqR T n p t v) (hp : p ≤ n) (ht : t ≠ 0) : p < n := by
  apply Classical.byContradiction
  intro w
  have e : tkN T n p = 21 := by unfold tkN; rw [if_pos (by omega)]
  rcases h with h | h | h | h | h <;> omega
/-- what the tokens are -/
theorem tq_word {t v : Int} {p : Nat} (h : tqR T n p t v) (w : Int) (hw : 0 ≤ w ∧ w < 14) : (t = 2 ∧ v = w) ↔ tkN T n p = w := by
  rcases h with h | h | h | h | h <;> omega
theorem tq_sign {t v : Int} {p : Nat} (h : tqR T n p t v) (w : Int) (hw : 40 ≤ w ∧ w ≤ 62) : (t = 4 ∧ v = w) ↔ tkN T n p = w := by
  rcases h with h | h | h | h | h <;> omega
theorem tq_num {t v : Int} {p : Nat} (h : tqR T n p t v) : t = 3 ↔ tkN T n p = 20 := by
  rcases h with h | h | h | h | h <;> omega
end RQ1
set_option maxRecDepth 100000 in
set_option maxHeartbeats 1000000 in
theorem q_readUnit (l : Launch) (g : ot_G) (ln : Nat) (ext : ot_L) (μ : ot_M) (T : Nat → Int) (n : Nat) (μb : ot_M) (b : Nat) (f0 h0 : Int → Int) (hg : qG T n μb) (q : Nat × CL) (hs : qS T n μb b f0 h0 q μ) (hroom : b + q.2.length < 400 ∨ tkN T n (psN T n q.1) = 21)  : ot_C l g yX10_readUnit cX10_readUnit 2 (some .int) 4 0 0 [.inr 60] (LL ln ext) μ (ot_pi (fun r L2 μ2 => L2 = LL ln ext ∧ qR T n μb b f0 h0 (unR (tkT T n) (vlT T n) q.1 q.2) r μ2)) := by
  refine ot_enter (by decide) (Nat.le_of_ble_eq_true rfl) ?_
  intro p e s m args below meth c X hr
  obtain ⟨gT, gT2, gn, gt, gw⟩ := id hg
  have h29 := hs.2.2.2.2.2.1
  have h21 := hs.2.2.2.2.1
  have htq := hs.2.2.2.1
  have h20 := tqR_20 htq
  have hpn := psN_le (T := T) (n := n) q.1
  obtain ⟨isA, hisA⟩ : ∃ isA : Int, isA = if 6 ≤ tkN T n (psN T n q.1) ∧ tkN T n (psN T n q.1) < 14 then 1 else 0 := ⟨_, rfl⟩
  have hA1 : isA = 1 ↔ (μ 60 20 = 2 ∧ 6 ≤ μ 60 21) := by
    rw [hisA]
    rcases htq with h | h | h | h | h <;> (split <;> omega)
  have hA0 : isA = 0 ∨ isA = 1 := by rw [hisA]; split <;> omega
  have hnum := tq_num htq
  have hval : tkN T n (psN T n q.1) = 20 → μ 60 21 = vlN T n (psN T n q.1) := fun h => by rcases htq with w | w | w | w | w <;> omega
  have hwrd : isA = 1 → μ 60 21 = tkN T n (psN T n q.1) := fun h => by rcases htq with w | w | w | w | w <;> omega
  refine tt_join1 22 [.inl isA] ?_ (fun J22 => ?_)
  · refine tt_istore_n X dX10_readUnit_22 (by decide) ?_
    refine tt_iload_n X rfl dX10_readUnit_23 ?_
    refine tt_if_ne X 41 (by omega) dX10_readUnit_24 (by decide) (fun b24 => ?_) (fun b24 => ?_)
    · refine tt_aload_n X rfl dX10_readUnit_41 ?_
      refine tt_join1 51 [.inl isA, .inr 60] ?_ (fun J51 => ?_)
      · refine tt_iload_n X rfl dX10_readUnit_51 ?_
        refine tt_if_eq X 65 (by omega) dX10_readUnit_52 (by decide) (fun b52 => ?_) (fun b52 => ?_)
        · refine tt_aload_n X rfl dX10_readUnit_65 ?_
          refine tt_geti X fX10_148 (k_60 _ _) (by decide) (Or.inl rfl) dX10_readUnit_66 ?_
          refine tt_vv X rfl mX10_176 (q_emits l g ln ext _ _ _ (by rw [h29]; omega)) (k_60 _ _) ⟨_, rfl, rfl⟩ rfl rfl (Nat.le_of_ble_eq_true rfl) (by decide) (by decide) (by decide) dX10_readUnit_69 (fun L69 μ69 hp => ?_)
          obtain ⟨rfl, e69⟩ := hp
          have hs69 := qS_emit (x := (isA, μ 60 21)) hs e69
          refine tt_aload_n X rfl dX10_readUnit_72 ?_
          refine tt_vv X rfl mX10_180 (q_reads l g ln ext _ (spT T n _) hs69.2.1 T n (by rw [hs69.1.1 72 (by decide) (by decide) (by decide)]; exact gT) gT2 gn (by rw [hs69.1.2 17 (by decide) (by decide) (by decide) (by decide) (by decide) (by decide) (by decide)]; exact gt) (spT_le (psN_le _)) (by rw [hs69.1.1 73 (by decide) (by decide) (by decide)]; exact gw)) (k_60 _ _) ⟨_, rfl, rfl⟩ rfl rfl (Nat.le_of_ble_eq_true rfl) (by decide) (by decide) (by decide) dX10_readUnit_73 (fun L73 μ73 hp => ?_)
          obtain ⟨rfl, sp73, tk73, vl73, e73, hsp73, ht73, hv73⟩ := hp
          have hs73 := qS_reads hs69 (tq_lt htq hpn (by omega)) e73 hsp73 ht73 hv73
          refine tt_iconst X dX10_readUnit_76 ?_
          refine tt_iret X ⟨hr.1, hr.2.1⟩ (by decide) (by decide) dX10_readUnit_77 ?_
          refine ⟨rfl, ?_⟩
          have hu : unR (tkT T n) (vlT T n) q.1 q.2 = .inr (q.1 + 1, q.2 ++ [(isA, μ 60 21)]) := by
            unfold unR
            first
              | (have h6 : 6 ≤ tkN T n (psN T n q.1) ∧ tkN T n (psN T n q.1) < 14 := Classical.byContradiction fun w => by rw [if_neg w] at hisA; omega
                 rw [if_neg (show ¬ tkT T n q.1 = 20 by show ¬ tkN T n (psN T n q.1) = 20; omega), if_pos (show 6 ≤ tkT T n q.1 ∧ tkT T n q.1 < 14 from h6)]
                 rw [show isA = 1 by omega]
                 rw [hwrd (by omega)]
                 rfl)
              | (have h20b : tkN T n (psN T n q.1) = 20 := by omega
                 rw [if_pos (show tkT T n q.1 = 20 from h20b)]
                 rw [show isA = 0 by omega]
                 rw [hval h20b]
                 show Sum.inr (q.1 + 1, q.2 ++ [((0 : Int), vlT T n q.1)]) = _
                 rw [show vlT T n q.1 = vlN T n (psN T n q.1) from if_pos h20b])
          rw [hu]
          exact ⟨rfl, hs73⟩
        · refine tt_aload_n X rfl dX10_readUnit_55 ?_
          refine tt_geti X fX10_148 (k_60 _ _) (by decide) (Or.inl rfl) dX10_readUnit_56 ?_
          refine tt_bipush X (by decide) dX10_readUnit_59 ?_
          refine tt_isub X dX10_readUnit_61 ?_
          refine tt_goto X 69 dX10_readUnit_62 (by decide) ?_
          refine tt_vv X rfl mX10_176 (q_emits l g ln ext _ _ _ (by rw [h29]; omega)) (k_60 _ _) ⟨_, rfl, rfl⟩ rfl rfl (Nat.le_of_ble_eq_true rfl) (by decide) (by decide) (by decide) dX10_readUnit_69 (fun L69 μ69 hp => ?_)
          obtain ⟨rfl, e69⟩ := hp
          have hs69 := qS_emit (x := (isA, μ 60 21 - 6)) hs e69
          refine tt_aload_n X rfl dX10_readUnit_72 ?_
          refine tt_vv X rfl mX10_180 (q_reads l g ln ext _ (spT T n _) hs69.2.1 T n (by rw [hs69.1.1 72 (by decide) (by decide) (by decide)]; exact gT) gT2 gn (by rw [hs69.1.2 17 (by decide) (by decide) (by decide) (by decide) (by decide) (by decide) (by decide)]; exact gt) (spT_le (psN_le _)) (by rw [hs69.1.1 73 (by decide) (by decide) (by decide)]; exact gw)) (k_60 _ _) ⟨_, rfl, rfl⟩ rfl rfl (Nat.le_of_ble_eq_true rfl) (by decide) (by decide) (by decide) dX10_readUnit_73 (fun L73 μ73 hp => ?_)
          obtain ⟨rfl, sp73, tk73, vl73, e73, hsp73, ht73, hv73⟩ := hp
          have hs73 := qS_reads hs69 (tq_lt htq hpn (by omega)) e73 hsp73 ht73 hv73
          refine tt_iconst X dX10_readUnit_76 ?_
          refine tt_iret X ⟨hr.1, hr.2.1⟩ (by decide) (by decide) dX10_readUnit_77 ?_
          refine ⟨rfl, ?_⟩
          have hu : unR (tkT T n) (vlT T n) q.1 q.2 = .inr (q.1 + 1, q.2 ++ [(isA, μ 60 21 - 6)]) := by
            unfold unR
            first
              | (have h6 : 6 ≤ tkN T n (psN T n q.1) ∧ tkN T n (psN T n q.1) < 14 := Classical.byContradiction fun w => by rw [if_neg w] at hisA; omega
                 rw [if_neg (show ¬ tkT T n q.1 = 20 by show ¬ tkN T n (psN T n q.1) = 20; omega), if_pos (show 6 ≤ tkT T n q.1 ∧ tkT T n q.1 < 14 from h6)]
                 rw [show isA = 1 by omega]
                 rw [hwrd (by omega)]
                 rfl)
              | (have h20b : tkN T n (psN T n q.1) = 20 := by omega
                 rw [if_pos (show tkT T n q.1 = 20 from h20b)]
                 rw [show isA = 0 by omega]
                 rw [hval h20b]
                 show Sum.inr (q.1 + 1, q.2 ++ [((0 : Int), vlT T n q.1)]) = _
                 rw [show vlT T n q.1 = vlN T n (psN T n q.1) from if_pos h20b])
          rw [hu]
          exact ⟨rfl, hs73⟩
      · refine tt_iload_n X rfl dX10_readUnit_42 ?_
        refine tt_if_eq X 50 (by omega) dX10_readUnit_43 (by decide) (fun b43 => ?_) (fun b43 => ?_)
        · refine tt_iconst X dX10_readUnit_50 ?_
          refine tt_top (show _ = isA by omega) ?_
          exact J51
        · refine tt_iconst X dX10_readUnit_46 ?_
          refine tt_goto X 51 dX10_readUnit_47 (by decide) ?_
          refine tt_top (show _ = isA by omega) ?_
          exact J51
    · refine tt_aload_n X rfl dX10_readUnit_27 ?_
      refine tt_geti X fX10_145 (k_60 _ _) (by decide) (Or.inl rfl) dX10_readUnit_28 ?_
      refine tt_iconst X dX10_readUnit_31 ?_
      refine tt_icmp_eq X 41 (by omega) dX10_readUnit_32 (by decide) (fun b32 => ?_) (fun b32 => ?_)
      · refine tt_aload_n X rfl dX10_readUnit_41 ?_
        refine tt_join1 51 [.inl isA, .inr 60] ?_ (fun J51 => ?_)
        · refine tt_iload_n X rfl dX10_readUnit_51 ?_
          refine tt_if_eq X 65 (by omega) dX10_readUnit_52 (by decide) (fun b52 => ?_) (fun b52 => ?_)
          · refine tt_aload_n X rfl dX10_readUnit_65 ?_
            refine tt_geti X fX10_148 (k_60 _ _) (by decide) (Or.inl rfl) dX10_readUnit_66 ?_
            refine tt_vv X rfl mX10_176 (q_emits l g ln ext _ _ _ (by rw [h29]; omega)) (k_60 _ _) ⟨_, rfl, rfl⟩ rfl rfl (Nat.le_of_ble_eq_true rfl) (by decide) (by decide) (by decide) dX10_readUnit_69 (fun L69 μ69 hp => ?_)
            obtain ⟨rfl, e69⟩ := hp
            have hs69 := qS_emit (x := (isA, μ 60 21)) hs e69
            refine tt_aload_n X rfl dX10_readUnit_72 ?_
            refine tt_vv X rfl mX10_180 (q_reads l g ln ext _ (spT T n _) hs69.2.1 T n (by rw [hs69.1.1 72 (by decide) (by decide) (by decide)]; exact gT) gT2 gn (by rw [hs69.1.2 17 (by decide) (by decide) (by decide) (by decide) (by decide) (by decide) (by decide)]; exact gt) (spT_le (psN_le _)) (by rw [hs69.1.1 73 (by decide) (by decide) (by decide)]; exact gw)) (k_60 _ _) ⟨_, rfl, rfl⟩ rfl rfl (Nat.le_of_ble_eq_true rfl) (by decide) (by decide) (by decide) dX10_readUnit_73 (fun L73 μ73 hp => ?_)
            obtain ⟨rfl, sp73, tk73, vl73, e73, hsp73, ht73, hv73⟩ := hp
            have hs73 := qS_reads hs69 (tq_lt htq hpn (by omega)) e73 hsp73 ht73 hv73
            refine tt_iconst X dX10_readUnit_76 ?_
            refine tt_iret X ⟨hr.1, hr.2.1⟩ (by decide) (by decide) dX10_readUnit_77 ?_
            refine ⟨rfl, ?_⟩
            have hu : unR (tkT T n) (vlT T n) q.1 q.2 = .inr (q.1 + 1, q.2 ++ [(isA, μ 60 21)]) := by
              unfold unR
              first
                | (have h6 : 6 ≤ tkN T n (psN T n q.1) ∧ tkN T n (psN T n q.1) < 14 := Classical.byContradiction fun w => by rw [if_neg w] at hisA; omega
                   rw [if_neg (show ¬ tkT T n q.1 = 20 by show ¬ tkN T n (psN T n q.1) = 20; omega), if_pos (show 6 ≤ tkT T n q.1 ∧ tkT T n q.1 < 14 from h6)]
                   rw [show isA = 1 by omega]
                   rw [hwrd (by omega)]
                   rfl)
                | (have h20b : tkN T n (psN T n q.1) = 20 := by omega
                   rw [if_pos (show tkT T n q.1 = 20 from h20b)]
                   rw [show isA = 0 by omega]
                   rw [hval h20b]
                   show Sum.inr (q.1 + 1, q.2 ++ [((0 : Int), vlT T n q.1)]) = _
                   rw [show vlT T n q.1 = vlN T n (psN T n q.1) from if_pos h20b])
            rw [hu]
            exact ⟨rfl, hs73⟩
          · refine tt_aload_n X rfl dX10_readUnit_55 ?_
            refine tt_geti X fX10_148 (k_60 _ _) (by decide) (Or.inl rfl) dX10_readUnit_56 ?_
            refine tt_bipush X (by decide) dX10_readUnit_59 ?_
            refine tt_isub X dX10_readUnit_61 ?_
            refine tt_goto X 69 dX10_readUnit_62 (by decide) ?_
            refine tt_vv X rfl mX10_176 (q_emits l g ln ext _ _ _ (by rw [h29]; omega)) (k_60 _ _) ⟨_, rfl, rfl⟩ rfl rfl (Nat.le_of_ble_eq_true rfl) (by decide) (by decide) (by decide) dX10_readUnit_69 (fun L69 μ69 hp => ?_)
            obtain ⟨rfl, e69⟩ := hp
            have hs69 := qS_emit (x := (isA, μ 60 21 - 6)) hs e69
            refine tt_aload_n X rfl dX10_readUnit_72 ?_
            refine tt_vv X rfl mX10_180 (q_reads l g ln ext _ (spT T n _) hs69.2.1 T n (by rw [hs69.1.1 72 (by decide) (by decide) (by decide)]; exact gT) gT2 gn (by rw [hs69.1.2 17 (by decide) (by decide) (by decide) (by decide) (by decide) (by decide) (by decide)]; exact gt) (spT_le (psN_le _)) (by rw [hs69.1.1 73 (by decide) (by decide) (by decide)]; exact gw)) (k_60 _ _) ⟨_, rfl, rfl⟩ rfl rfl (Nat.le_of_ble_eq_true rfl) (by decide) (by decide) (by decide) dX10_readUnit_73 (fun L73 μ73 hp => ?_)
            obtain ⟨rfl, sp73, tk73, vl73, e73, hsp73, ht73, hv73⟩ := hp
            have hs73 := qS_reads hs69 (tq_lt htq hpn (by omega)) e73 hsp73 ht73 hv73
            refine tt_iconst X dX10_readUnit_76 ?_
            refine tt_iret X ⟨hr.1, hr.2.1⟩ (by decide) (by decide) dX10_readUnit_77 ?_
            refine ⟨rfl, ?_⟩
            have hu : unR (tkT T n) (vlT T n) q.1 q.2 = .inr (q.1 + 1, q.2 ++ [(isA, μ 60 21 - 6)]) := by
              unfold unR
              first
                | (have h6 : 6 ≤ tkN T n (psN T n q.1) ∧ tkN T n (psN T n q.1) < 14 := Classical.byContradiction fun w => by rw [if_neg w] at hisA; omega
                   rw [if_neg (show ¬ tkT T n q.1 = 20 by show ¬ tkN T n (psN T n q.1) = 20; omega), if_pos (show 6 ≤ tkT T n q.1 ∧ tkT T n q.1 < 14 from h6)]
                   rw [show isA = 1 by omega]
                   rw [hwrd (by omega)]
                   rfl)
                | (have h20b : tkN T n (psN T n q.1) = 20 := by omega
                   rw [if_pos (show tkT T n q.1 = 20 from h20b)]
                   rw [show isA = 0 by omega]
                   rw [hval h20b]
                   show Sum.inr (q.1 + 1, q.2 ++ [((0 : Int), vlT T n q.1)]) = _
                   rw [show vlT T n q.1 = vlN T n (psN T n q.1) from if_pos h20b])
            rw [hu]
            exact ⟨rfl, hs73⟩
        · refine tt_iload_n X rfl dX10_readUnit_42 ?_
          refine tt_if_eq X 50 (by omega) dX10_readUnit_43 (by decide) (fun b43 => ?_) (fun b43 => ?_)
          · refine tt_iconst X dX10_readUnit_50 ?_
            refine tt_top (show _ = isA by omega) ?_
            exact J51
          · refine tt_iconst X dX10_readUnit_46 ?_
            refine tt_goto X 51 dX10_readUnit_47 (by decide) ?_
            refine tt_top (show _ = isA by omega) ?_
            exact J51
      · refine tt_aload_n X rfl dX10_readUnit_35 ?_
        refine tt_iconst X dX10_readUnit_36 ?_
        refine tt_vi X rfl mX10_173 (q_errs l g ln ext _ _) (k_60 _ _) ⟨_, rfl, rfl⟩ rfl rfl (Nat.le_of_ble_eq_true rfl) (by decide) (by decide) (by decide) dX10_readUnit_37 (fun z37 L37 μ37 hp => ?_)
        obtain ⟨rfl, e37, hz37⟩ := hp
        have hs37 := qS_err hs e37
        try simp (disch := decide) only [ot_rd, ot_rs, ot_rf, ot_ucd, ot_ucs] at hz37
        refine tt_iret X ⟨hr.1, hr.2.1⟩ (by decide) (by decide) dX10_readUnit_40 ?_
        refine ⟨rfl, ?_⟩
        have hu : unR (tkT T n) (vlT T n) q.1 q.2 = .inl (1, q.1) := by
          unfold unR
          rw [if_neg (show ¬ tkT T n q.1 = 20 by show ¬ tkN T n (psN T n q.1) = 20; omega), if_neg (show ¬ (6 ≤ tkT T n q.1 ∧ tkT T n q.1 < 14) by intro w; have w2 : 6 ≤ tkN T n (psN T n q.1) ∧ tkN T n (psN T n q.1) < 14 := w; rw [if_pos w2] at hisA; omega)]
        rw [hu]
        exact ⟨hz37, hs37⟩
  · refine tt_aload_n X rfl dX10_readUnit_0 ?_
    refine tt_geti X fX10_145 (k_60 _ _) (by decide) (Or.inl rfl) dX10_readUnit_1 ?_
    refine tt_iconst X dX10_readUnit_4 ?_
    refine tt_icmp_ne X 21 (by omega) dX10_readUnit_5 (by decide) (fun b5 => ?_) (fun b5 => ?_)
    · refine tt_iconst X dX10_readUnit_21 ?_
      refine tt_top (show _ = isA by omega) ?_
      exact J22
    · refine tt_aload_n X rfl dX10_readUnit_8 ?_
      refine tt_geti X fX10_148 (k_60 _ _) (by decide) (Or.inl rfl) dX10_readUnit_9 ?_
      refine tt_bipush X (by decide) dX10_readUnit_12 ?_
      refine tt_icmp_lt X 21 (by omega) dX10_readUnit_14 (by decide) (fun b14 => ?_) (fun b14 => ?_)
      · refine tt_iconst X dX10_readUnit_21 ?_
        refine tt_top (show _ = isA by omega) ?_
        exact J22
      · refine tt_iconst X dX10_readUnit_17 ?_
        refine tt_goto X 22 dX10_readUnit_18 (by decide) ?_
        refine tt_top (show _ = isA by omega) ?_
        exact J22

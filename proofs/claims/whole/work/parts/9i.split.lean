theorem sg_iff {c : Int} : sgL.contains c = true ↔ ∃ j, j < 10 ∧ sgL.getD j 0 = c := by
  rw [List.contains_iff_mem]
  constructor
  · intro h
    obtain ⟨j, hj, e⟩ := List.getElem_of_mem h
    refine ⟨j, hj, ?_⟩
    rw [← e]
    rw [List.getD_eq_getElem?_getD, List.getElem?_eq_getElem hj]; rfl
  · rintro ⟨j, hj, e⟩
    rw [← e, List.getD_eq_getElem?_getD, List.getElem?_eq_getElem (show j < sgL.length from hj)]
    exact List.getElem_mem _
theorem blB_no {c : Int} (h : ¬ (c = 32 ∨ c = 10)) : blB c = false := decide_eq_false h
theorem tk_lt {T : Nat → Int} {n i j : Nat} (hi : i < n) (h : ltB (T i) = true) (hen : enN T n i = j) : tkN T n i = if kwN T i j < 14 then (kwN T i j : Int) else 22 := by
  unfold tkN
  rw [if_neg (by omega), if_pos h, hen]
theorem tk_dg {T : Nat → Int} {n i j : Nat} (hi : i < n) (h0 : ltB (T i) = false) (h : dgB (T i) = true) (hen : enN T n i = j) : tkN T n i = if j - i ≤ 4 then 20 else 22 := by
  unfold tkN
  rw [if_neg (by omega), h0, if_pos h, hen]
  rfl
theorem tk_sg {T : Nat → Int} {n i : Nat} (hi : i < n) (h0 : ltB (T i) = false) (h : dgB (T i) = false) : tkN T n i = if sgL.contains (T i) then T i else 22 := by
  unfold tkN
  rw [if_neg (by omega), h0, h]
  rfl
theorem en_lt {T : Nat → Int} {n i j : Nat} (h : ltB (T i) = true) (h1 : i + 1 ≤ j ∧ j ≤ n) (h2 : ∀ u, i + 1 ≤ u → u < j → ltB (T u) = true) (h3 : j = n ∨ ltB (T j) = false) : enN T n i = j := by
  unfold enN
  rw [if_pos h]
  exact rnN_eq h1.1 h1.2 h2 h3
theorem en_dg {T : Nat → Int} {n i j : Nat} (h0 : ltB (T i) = false) (h : dgB (T i) = true) (h1 : i + 1 ≤ j ∧ j ≤ n) (h2 : ∀ u, i + 1 ≤ u → u < j → dgB (T u) = true) (h3 : j = n ∨ dgB (T j) = false) : enN T n i = j := by
  unfold enN
  rw [h0, if_pos h]
  exact rnN_eq h1.1 h1.2 h2 h3
theorem en_sg {T : Nat → Int} {n i : Nat} (h0 : ltB (T i) = false) (h : dgB (T i) = false) : enN T n i = i + 1 := by
  unfold enN
  rw [h0, h]
  rfl
theorem sg_20 {c : Int} : (if sgL.contains c then c else 22) ≠ (20 : Int) := by
  intro h
  split at h
  · rename_i w
    rw [h] at w
    revert w
    decide
  · omega
theorem kw_20 {T : Nat → Int} {i j : Nat} : (if kwN T i j < 14 then (kwN T i j : Int) else 22) ≠ (20 : Int) := by
  split <;> omega
/-- the rows of tokens grow by one -/
theorem tok_next {T : Nat → Int} {n k i : Nat} {A B C : Int → Int} {kk vv : Int} (hi : i < n) (hpk : psN T n k = i) (htk : tkN T n i = kk) (hvl : tkN T n i = 20 → vv = vlN T n i) (h : ∀ u : Nat, u < k → psN T n u < n ∧ (A (u : Int) = tkN T n (psN T n u) ∧ B (u : Int) = (psN T n u : Int) ∧ (tkN T n (psN T n u) = 20 → C (u : Int) = vlN T n (psN T n u)))) : ∀ u : Nat, u < k + 1 → psN T n u < n ∧ (up1 A (k : Int) kk (u : Int) = tkN T n (psN T n u) ∧ up1 B (k : Int) (i : Int) (u : Int) = (psN T n u : Int) ∧ (tkN T n (psN T n u) = 20 → up1 C (k : Int) vv (u : Int) = vlN T n (psN T n u))) := by
  intro u hu
  by_cases e1 : u = k
  · subst e1
    rw [up1_s, up1_s, up1_s, hpk]
    exact ⟨hi, htk.symm, rfl, hvl⟩
  · rw [up1_n (by omega), up1_n (by omega), up1_n (by omega)]
    exact h u (by omega)
set_option maxRecDepth 100000 in
set_option maxHeartbeats 1000000 in
theorem c_split (l : Launch) (g : ot_G) (ln : Nat) (ext : ot_L) (μ : ot_M) (hgz : ot_gz g) (T : Nat → Int) (n : Nat) (hT : ∀ k, k < n → μ 58 (k : Int) = T k) (hT2 : ∀ k, 0 ≤ T k ∧ T k ≤ 255) (hn : n ≤ 400)  : ot_C l g yX4_split cX4_split 6 none 5 0 0 [.inr 49, .inr 58, .inl (n : Int)] (LL ln ext) μ (ot_pv (fun L2 μ2 => L2 = LL ln ext ∧ ∃ (K : Nat) (A B C : Int → Int), K ≤ n ∧ psN T n K = n ∧ (∀ k, k < K → psN T n k < n) ∧ (∀ u : Nat, u ≤ K → (A (u : Int) = tkN T n (psN T n u) ∧ B (u : Int) = (psN T n u : Int) ∧ (tkN T n (psN T n u) = 20 → C (u : Int) = vlN T n (psN T n u)))) ∧ μ2 = ot_up (ot_uc (ot_uc (ot_uc μ 55 A) 56 B) 57 C) 49 4 ((K + 1 : Nat) : Int))) := by
  refine ot_enter (by decide) (Nat.le_of_ble_eq_true rfl) ?_
  intro p e s m args below meth c X hr
  obtain ⟨hz0, _, ⟨yq, yv, ytx, hyo, hyr⟩⟩ := id hgz
  refine tt_aload_n X rfl dX4_split_0 ?_
  refine tt_iconst X dX4_split_1 ?_
  refine tt_puti X fX4_60 kc_4 (k_49 _ _) (by decide) (fun q hq => by cases hq; rfl) rfl dX4_split_2 ?_
  refine tt_iconst X dX4_split_5 ?_
  refine tt_istore_n X dX4_split_6 (by decide) ?_
  refine tt_mem (μ' := ot_up (ot_uc (ot_uc (ot_uc μ 55 (μ 55)) 56 (μ 56)) 57 (μ 57)) 49 4 ((0 : Nat) : Int)) (by rw [ot_uc_self, ot_uc_self, ot_uc_self]; rfl) ?_
  refine tt_loc [(0, _), (1, _), (2, _), (3, _)] ⟨rfl, rfl, rfl, rfl, trivial⟩ ?_
  refine tt_loop (α := Nat × Nat × (Int → Int) × (Int → Int) × (Int → Int)) (fun ((i, k, A, B, C)) => n - i) (fun ((i, k, A, B, C)) => (i ≤ n ∧ k ≤ i) ∧ psN T n k = skN T n i ∧ ∀ u : Nat, u < k → psN T n u < n ∧ (A (u : Int) = tkN T n (psN T n u) ∧ B (u : Int) = (psN T n u : Int) ∧ (tkN T n (psN T n u) = 20 → C (u : Int) = vlN T n (psN T n u)))) (fun ((i, k, A, B, C)) => ot_up (ot_uc (ot_uc (ot_uc μ 55 A) 56 B) 57 C) 49 4 (k : Int)) (fun ((i, k, A, B, C)) => [(0, .inr 49), (1, .inr 58), (2, .inl (n : Int)), (3, .inl (i : Int))]) (0, 0, μ 55, μ 56, μ 57) ⟨⟨Nat.zero_le _, Nat.le_refl _⟩, rfl, fun u hu => absurd hu (Nat.not_lt_zero u)⟩ ?_
  intro a hI ih
  obtain ⟨i, k, A, B, C⟩ := a
  try dsimp only at hI ih ⊢
  replace hI : (i ≤ n ∧ k ≤ i) ∧ psN T n k = skN T n i ∧ ∀ u : Nat, u < k → psN T n u < n ∧ (A (u : Int) = tkN T n (psN T n u) ∧ B (u : Int) = (psN T n u : Int) ∧ (tkN T n (psN T n u) = 20 → C (u : Int) = vlN T n (psN T n u))) := hI
  have hin := hI.1
  have hpk0 : i < n → blB (T i) = false → psN T n k = i := fun h1 h2 => by rw [hI.2.1]; exact rnN_stop (by omega) (Or.inr h2)
  have hTi := hT2 i
  refine tt_iload_n X rfl dX4_split_7 ?_
  refine tt_iload_n X rfl dX4_split_8 ?_
  refine tt_icmp_ge X 172 (by first | omega | (simp (disch := decide) only [ot_rd, ot_rs, ot_rf, ot_ucd, ot_ucs]; omega)) dX4_split_9 (by decide) (fun b9 => ?_) (fun b9 => ?_)
  · refine tt_aload_n X rfl dX4_split_172 ?_
    refine tt_bipush X (by decide) dX4_split_173 ?_
    refine tt_iload_n X rfl dX4_split_175 ?_
    refine tt_iconst X dX4_split_176 ?_
    refine tt_vv X rfl mX4_71 (c_put l g ln ext _ _ _ _ (by simp (disch := decide) only [ot_rd, ot_rs, ot_rf, ot_ucd, ot_ucs, ot_rdf]; omega)) (k_49 _ _) ⟨_, rfl, rfl⟩ rfl rfl (Nat.le_of_ble_eq_true rfl) (by decide) (by decide) (by decide) dX4_split_177 (fun L177 μ177 hp => ?_)
    obtain ⟨rfl, e177⟩ := hp
    subst e177
    simp (disch := decide) only [ot_rd, ot_rs, ot_rf, ot_ucd, ot_ucs, ot_rdf]
    refine tt_vret X ⟨hr.1, hr.2.1⟩ (by decide) (by decide) dX4_split_180 ?_
    have hie : i = n := by omega
    have hpk : psN T n k = n := by rw [hI.2.1, hie]; exact rnN_stop (Nat.le_refl _) (Or.inl rfl)
    refine ⟨rfl, k, up1 A (k : Int) 21, up1 B (k : Int) (n : Int), up1 C (k : Int) 0, by omega, hpk, fun u hu => (hI.2.2 u hu).1, fun u hu => ?_, ?_⟩
    · by_cases e1 : u = k
      · subst e1
        rw [up1_s, up1_s, up1_s, hpk]
        have ht : tkN T n n = 21 := by unfold tkN; rw [if_pos (Nat.le_refl _)]
        exact ⟨ht.symm, rfl, fun q => by rw [ht] at q; omega⟩
      · rw [up1_n (by omega), up1_n (by omega), up1_n (by omega)]
        exact (hI.2.2 u (by omega)).2
    · funext q c1
      by_cases w1 : q = 55 <;> by_cases w2 : q = 56 <;> by_cases w3 : q = 57 <;> by_cases w4 : q = 49 <;> by_cases w5 : c1 = 4 <;> simp [ot_up, ot_uc, up1, w1, w2, w3, w4, w5]
  · refine tt_iload_n X rfl dX4_split_12 ?_
    refine tt_iconst X dX4_split_13 ?_
    refine tt_iadd X dX4_split_14 ?_
    refine tt_istore X dX4_split_15 (by decide) ?_
    refine tt_aload_n X rfl dX4_split_17 ?_
    refine tt_iload_n X rfl dX4_split_18 ?_
    refine tt_iaload X (k_58 _ _) (by first | omega | (simp (disch := decide) only [ot_rd, ot_rs, ot_rf, ot_ucd, ot_ucs]; omega)) dX4_split_19 ?_
    try simp (disch := decide) only [ot_rd, ot_rs, ot_rf, ot_ucd, ot_ucs]
    refine tt_top (hT i (by omega)) ?_
    refine tt_istore X dX4_split_20 (by decide) ?_
    refine tt_iload X rfl dX4_split_22 ?_
    refine tt_si X rfl mX4_63 (c_isLetter l g ln ext _ (T i) (by omega)) rfl rfl (Nat.le_of_ble_eq_true rfl) (by decide) (by decide) (by decide) dX4_split_24 (fun z24 L24 μ24 hp => ?_)
    obtain ⟨rfl, e24, hz24⟩ := hp
    replace e24 := e24.symm
    subst e24
    try simp (disch := decide) only [ot_rd, ot_rs, ot_rf, ot_ucd, ot_ucs] at hz24
    refine tt_if_eq X 68 (by rw [hz24]; split <;> omega) dX4_split_27 (by decide) (fun b27 => ?_) (fun b27 => ?_)
    · refine tt_iload X rfl dX4_split_68 ?_
      refine tt_si X rfl mX4_75 (c_isDigit l g ln ext _ (T i) (by omega)) rfl rfl (Nat.le_of_ble_eq_true rfl) (by decide) (by decide) (by decide) dX4_split_70 (fun z70 L70 μ70 hp => ?_)
      obtain ⟨rfl, e70, hz70⟩ := hp
      replace e70 := e70.symm
      subst e70
      try simp (disch := decide) only [ot_rd, ot_rs, ot_rf, ot_ucd, ot_ucs] at hz70
      refine tt_if_eq X 128 (by rw [hz70]; split <;> omega) dX4_split_73 (by decide) (fun b73 => ?_) (fun b73 => ?_)
      · refine tt_iload X rfl dX4_split_128 ?_
        refine tt_bipush X (by decide) dX4_split_130 ?_
        refine tt_icmp_eq X 166 (by first | omega | (simp (disch := decide) only [ot_rd, ot_rs, ot_rf, ot_ucd, ot_ucs]; omega)) dX4_split_132 (by decide) (fun b132 => ?_) (fun b132 => ?_)
        · refine tt_iload X rfl dX4_split_166 ?_
          refine tt_istore_n X dX4_split_168 (by decide) ?_
          refine tt_goto X 7 dX4_split_169 (by decide) ?_
          refine tt_loc [(0, _), (1, _), (2, _), (3, _)] ⟨rfl, rfl, rfl, rfl, trivial⟩ ?_
          first
            | (have hbl : blB (T i) = true := decide_eq_true (by omega)
               exact ih (i + 1, k, A, B, C) ⟨by show i + 1 ≤ n ∧ k ≤ i + 1; omega, by show psN T n k = skN T n (i + 1); rw [hI.2.1]; exact rnN_step (by omega) hbl, hI.2.2⟩ (by show n - (i + 1) < n - i; omega))
            | exact ih (j, k + 1, _, _, _) ⟨by show j ≤ n ∧ k + 1 ≤ j; omega, by show psN T n (k + 1) = skN T n j; rw [psN_s, hpk, if_pos (by omega), hen], hnx⟩ (by show n - j < n - i; omega)
            | exact ih (i + 1, k + 1, _, _, _) ⟨by show i + 1 ≤ n ∧ k + 1 ≤ i + 1; omega, by show psN T n (k + 1) = skN T n (i + 1); rw [psN_s, hpk, if_pos (by omega), hen], hnx⟩ (by show n - (i + 1) < n - i; omega)
        · refine tt_iload X rfl dX4_split_135 ?_
          refine tt_bipush X (by decide) dX4_split_137 ?_
          refine tt_icmp_eq X 166 (by first | omega | (simp (disch := decide) only [ot_rd, ot_rs, ot_rf, ot_ucd, ot_ucs]; omega)) dX4_split_139 (by decide) (fun b139 => ?_) (fun b139 => ?_)
          · refine tt_iload X rfl dX4_split_166 ?_
            refine tt_istore_n X dX4_split_168 (by decide) ?_
            refine tt_goto X 7 dX4_split_169 (by decide) ?_
            refine tt_loc [(0, _), (1, _), (2, _), (3, _)] ⟨rfl, rfl, rfl, rfl, trivial⟩ ?_
            first
              | (have hbl : blB (T i) = true := decide_eq_true (by omega)
                 exact ih (i + 1, k, A, B, C) ⟨by show i + 1 ≤ n ∧ k ≤ i + 1; omega, by show psN T n k = skN T n (i + 1); rw [hI.2.1]; exact rnN_step (by omega) hbl, hI.2.2⟩ (by show n - (i + 1) < n - i; omega))
              | exact ih (j, k + 1, _, _, _) ⟨by show j ≤ n ∧ k + 1 ≤ j; omega, by show psN T n (k + 1) = skN T n j; rw [psN_s, hpk, if_pos (by omega), hen], hnx⟩ (by show n - j < n - i; omega)
              | exact ih (i + 1, k + 1, _, _, _) ⟨by show i + 1 ≤ n ∧ k + 1 ≤ i + 1; omega, by show psN T n (k + 1) = skN T n (i + 1); rw [psN_s, hpk, if_pos (by omega), hen], hnx⟩ (by show n - (i + 1) < n - i; omega)
          · refine tt_aload_n X rfl dX4_split_142 ?_
            refine tt_join1 161 [.inl (if sgL.contains (T i) then T i else 22), .inr 49] ?_ (fun J161 => ?_)
            · refine tt_iload_n X rfl dX4_split_161 ?_
              refine tt_iconst X dX4_split_162 ?_
              refine tt_vv X rfl mX4_71 (c_put l g ln ext _ _ _ _ (by simp (disch := decide) only [ot_rd, ot_rs, ot_rf, ot_ucd, ot_ucs, ot_rdf]; omega)) (k_49 _ _) ⟨_, rfl, rfl⟩ rfl rfl (Nat.le_of_ble_eq_true rfl) (by decide) (by decide) (by decide) dX4_split_163 (fun L163 μ163 hp => ?_)
              obtain ⟨rfl, e163⟩ := hp
              subst e163
              simp (disch := decide) only [ot_rd, ot_rs, ot_rf, ot_ucd, ot_ucs, ot_rdf]
              have hlt : ltB (T i) = false := ite_nil hz24 (by omega)
              have hdg : dgB (T i) = false := ite_nil hz70 (by omega)
              have hpk := hpk0 (by omega) (blB_no (by omega))
              have hen := en_sg (n := n) hlt hdg
              have htk := tk_sg (n := n) (i := i) (by omega) hlt hdg
              have hvl : tkN T n i = 20 → (0 : Int) = vlN T n i := fun q => absurd (htk.symm.trans q) sg_20
              have hnx := tok_next (vv := 0) (by omega) hpk htk hvl hI.2.2
              refine tt_mem (μ' := ot_up (ot_uc (ot_uc (ot_uc μ 55 (up1 A (k : Int) (if sgL.contains (T i) then T i else 22))) 56 (up1 B (k : Int) (i : Int))) 57 (up1 C (k : Int) 0)) 49 4 ((k + 1 : Nat) : Int)) (by funext q c1; by_cases w1 : q = 55 <;> by_cases w2 : q = 56 <;> by_cases w3 : q = 57 <;> by_cases w4 : q = 49 <;> by_cases w5 : c1 = 4 <;> simp [ot_up, ot_uc, up1, w1, w2, w3, w4, w5]) ?_
              refine tt_iload X rfl dX4_split_166 ?_
              refine tt_istore_n X dX4_split_168 (by decide) ?_
              refine tt_goto X 7 dX4_split_169 (by decide) ?_
              refine tt_loc [(0, _), (1, _), (2, _), (3, _)] ⟨rfl, rfl, rfl, rfl, trivial⟩ ?_
              first
                | (have hbl : blB (T i) = true := decide_eq_true (by omega)
                   exact ih (i + 1, k, A, B, C) ⟨by show i + 1 ≤ n ∧ k ≤ i + 1; omega, by show psN T n k = skN T n (i + 1); rw [hI.2.1]; exact rnN_step (by omega) hbl, hI.2.2⟩ (by show n - (i + 1) < n - i; omega))
                | exact ih (j, k + 1, _, _, _) ⟨by show j ≤ n ∧ k + 1 ≤ j; omega, by show psN T n (k + 1) = skN T n j; rw [psN_s, hpk, if_pos (by omega), hen], hnx⟩ (by show n - j < n - i; omega)
                | exact ih (i + 1, k + 1, _, _, _) ⟨by show i + 1 ≤ n ∧ k + 1 ≤ i + 1; omega, by show psN T n (k + 1) = skN T n (i + 1); rw [psN_s, hpk, if_pos (by omega), hen], hnx⟩ (by show n - (i + 1) < n - i; omega)
            · refine tt_ofV ?_
              refine tv_ldcS X hyr dX4_split_143 ?_
              refine tv_iload X rfl dX4_split_145 ?_
              refine tv_i2c X (c2i (by omega)) dX4_split_147 ?_
              refine tv_callV X rfl mX4_83 (s_indexOf l g _ _ yq yv 10 sgL hyo hz0 (T i) hTi (by decide)) hyo.1 rfl rfl (by unfold ot_c1; simp [Value.category, ot_i, ot_v]) (by decide) (by decide) (by decide) dX4_split_148 (fun r L2 μ2 hp => ?_)
              obtain ⟨z148, rfl, e1, e2, hz148⟩ := hp
              replace e1 := e1.symm
              replace e2 := e2.symm
              subst e1
              subst e2
              refine tv_ofT (sw := [.inl z148, .inr 49]) ?_
              rw [← sg_iff] at hz148
              refine tt_if_lt X 159 (by first | omega | (simp (disch := decide) only [ot_rd, ot_rs, ot_rf, ot_ucd, ot_ucs]; omega)) dX4_split_151 (by decide) (fun b151 => ?_) (fun b151 => ?_)
              · refine tt_bipush X (by decide) dX4_split_159 ?_
                refine tt_top (show _ = (if sgL.contains (T i) then T i else 22) by first | (rw [if_pos (hz148.2.mp (by omega))]; done) | (rw [if_neg (fun q => by have := hz148.2.mpr q; omega)]; done)) ?_
                exact J161
              · refine tt_iload X rfl dX4_split_154 ?_
                refine tt_goto X 161 dX4_split_156 (by decide) ?_
                refine tt_top (show _ = (if sgL.contains (T i) then T i else 22) by first | (rw [if_pos (hz148.2.mp (by omega))]; done) | (rw [if_neg (fun q => by have := hz148.2.mpr q; omega)]; done)) ?_
                exact J161
      · refine tt_loc [(0, _), (1, _), (2, _), (3, _), (4, _), (5, _)] ⟨rfl, rfl, rfl, rfl, rfl, rfl, trivial⟩ ?_
        refine tt_loop (α := Nat) (fun j => n - j) (fun j => (i + 1 ≤ j ∧ j ≤ n) ∧ ∀ u, i + 1 ≤ u → u < j → dgB (T u) = true) (fun j => ot_up (ot_uc (ot_uc (ot_uc μ 55 A) 56 B) 57 C) 49 4 (k : Int)) (fun j => [(0, .inr 49), (1, .inr 58), (2, .inl (n : Int)), (3, .inl (i : Int)), (4, .inl (j : Int)), (5, .inl (T i))]) (i + 1) ⟨⟨Nat.le_refl _, by omega⟩, fun u h1 h2 => by omega⟩ ?_
        intro j hI3 ih3
        try dsimp only at hI3 ih3 ⊢
        have hj := hI3.1
        refine tt_iload X rfl dX4_split_76 ?_
        refine tt_iload_n X rfl dX4_split_78 ?_
        refine tt_icmp_ge X 98 (by first | omega | (simp (disch := decide) only [ot_rd, ot_rs, ot_rf, ot_ucd, ot_ucs]; omega)) dX4_split_79 (by decide) (fun b79 => ?_) (fun b79 => ?_)
        · have hlt : ltB (T i) = false := ite_nil hz24 (by omega)
          have hdg : dgB (T i) = true := ite_one hz70 (by omega)
          have hen : enN T n i = j := en_dg hlt hdg hj hI3.2 (by first | exact Or.inl (by omega) | exact Or.inr (ite_nil hz86 (by omega)))
          refine tt_aload_n X rfl dX4_split_98 ?_
          refine tt_join1 114 [.inl (if j - i ≤ 4 then 20 else 22), .inr 49] ?_ (fun J114 => ?_)
          · refine tt_iload_n X rfl dX4_split_114 ?_
            refine tt_aload_n X rfl dX4_split_115 ?_
            refine tt_iload_n X rfl dX4_split_116 ?_
            refine tt_iload X rfl dX4_split_117 ?_
            have hdd : ∀ u, i ≤ u → u < j → 48 ≤ T u ∧ T u ≤ 57 := fun u h1 h2 => by
              have q : dgB (T u) = true := by
                by_cases e1 : u = i
                · rw [e1]; exact hdg
                · exact hI3.2 u (by omega) h2
              unfold dgB at q
              exact of_decide_eq_true q
            refine tt_si X rfl mX4_78 (c_valueOf l g ln ext _ i j (by omega) T n (by simp (disch := decide) only [ot_rd, ot_rs, ot_rf, ot_ucd, ot_ucs, ot_rdf]; exact hT) hT2 hn (by omega) hdd) rfl rfl (Nat.le_of_ble_eq_true rfl) (by decide) (by decide) (by decide) dX4_split_119 (fun z119 L119 μ119 hp => ?_)
            obtain ⟨rfl, e119, hz119⟩ := hp
            replace e119 := e119.symm
            subst e119
            try simp (disch := decide) only [ot_rd, ot_rs, ot_rf, ot_ucd, ot_ucs] at hz119
            refine tt_top hz119 ?_
            refine tt_vv X rfl mX4_71 (c_put l g ln ext _ _ _ _ (by simp (disch := decide) only [ot_rd, ot_rs, ot_rf, ot_ucd, ot_ucs, ot_rdf]; omega)) (k_49 _ _) ⟨_, rfl, rfl⟩ rfl rfl (Nat.le_of_ble_eq_true rfl) (by decide) (by decide) (by decide) dX4_split_122 (fun L122 μ122 hp => ?_)
            obtain ⟨rfl, e122⟩ := hp
            subst e122
            simp (disch := decide) only [ot_rd, ot_rs, ot_rf, ot_ucd, ot_ucs, ot_rdf]
            have hpk := hpk0 (by omega) (blB_no (by unfold dgB at hdg; have := of_decide_eq_true hdg; omega))
            have htk := tk_dg (n := n) (i := i) (by omega) hlt hdg hen
            have hvl : tkN T n i = 20 → dvN T i (min (j - i) 4) = vlN T n i := fun _ => by unfold vlN; rw [hen]
            have hnx := tok_next (vv := (dvN T i (min (j - i) 4))) (by omega) hpk htk hvl hI.2.2
            refine tt_mem (μ' := ot_up (ot_uc (ot_uc (ot_uc μ 55 (up1 A (k : Int) (if j - i ≤ 4 then 20 else 22))) 56 (up1 B (k : Int) (i : Int))) 57 (up1 C (k : Int) (dvN T i (min (j - i) 4)))) 49 4 ((k + 1 : Nat) : Int)) (by funext q c1; by_cases w1 : q = 55 <;> by_cases w2 : q = 56 <;> by_cases w3 : q = 57 <;> by_cases w4 : q = 49 <;> by_cases w5 : c1 = 4 <;> simp [ot_up, ot_uc, up1, w1, w2, w3, w4, w5]) ?_
            refine tt_goto X 166 dX4_split_125 (by decide) ?_
            refine tt_iload X rfl dX4_split_166 ?_
            refine tt_istore_n X dX4_split_168 (by decide) ?_
            refine tt_goto X 7 dX4_split_169 (by decide) ?_
            refine tt_loc [(0, _), (1, _), (2, _), (3, _)] ⟨rfl, rfl, rfl, rfl, trivial⟩ ?_
            first
              | (have hbl : blB (T i) = true := decide_eq_true (by omega)
                 exact ih (i + 1, k, A, B, C) ⟨by show i + 1 ≤ n ∧ k ≤ i + 1; omega, by show psN T n k = skN T n (i + 1); rw [hI.2.1]; exact rnN_step (by omega) hbl, hI.2.2⟩ (by show n - (i + 1) < n - i; omega))
              | exact ih (j, k + 1, _, _, _) ⟨by show j ≤ n ∧ k + 1 ≤ j; omega, by show psN T n (k + 1) = skN T n j; rw [psN_s, hpk, if_pos (by omega), hen], hnx⟩ (by show n - j < n - i; omega)
              | exact ih (i + 1, k + 1, _, _, _) ⟨by show i + 1 ≤ n ∧ k + 1 ≤ i + 1; omega, by show psN T n (k + 1) = skN T n (i + 1); rw [psN_s, hpk, if_pos (by omega), hen], hnx⟩ (by show n - (i + 1) < n - i; omega)
          · refine tt_iload X rfl dX4_split_99 ?_
            refine tt_iload_n X rfl dX4_split_101 ?_
            refine tt_isub X dX4_split_102 ?_
            refine tt_iconst X dX4_split_103 ?_
            refine tt_icmp_gt X 112 (by first | omega | (simp (disch := decide) only [ot_rd, ot_rs, ot_rf, ot_ucd, ot_ucs]; omega)) dX4_split_104 (by decide) (fun b104 => ?_) (fun b104 => ?_)
            · refine tt_bipush X (by decide) dX4_split_112 ?_
              refine tt_top (show _ = (if j - i ≤ 4 then 20 else 22) by first | rw [if_pos (by omega)] | rw [if_neg (by omega)]) ?_
              exact J114
            · refine tt_bipush X (by decide) dX4_split_107 ?_
              refine tt_goto X 114 dX4_split_109 (by decide) ?_
              refine tt_top (show _ = (if j - i ≤ 4 then 20 else 22) by first | rw [if_pos (by omega)] | rw [if_neg (by omega)]) ?_
              exact J114
        · refine tt_aload_n X rfl dX4_split_82 ?_
          refine tt_iload X rfl dX4_split_83 ?_
          refine tt_iaload X (k_58 _ _) (by first | omega | (simp (disch := decide) only [ot_rd, ot_rs, ot_rf, ot_ucd, ot_ucs]; omega)) dX4_split_85 ?_
          try simp (disch := decide) only [ot_rd, ot_rs, ot_rf, ot_ucd, ot_ucs]
          have hTj := hT2 j
          refine tt_top (hT j (by omega)) ?_
          refine tt_si X rfl mX4_75 (c_isDigit l g ln ext _ (T j) (by omega)) rfl rfl (Nat.le_of_ble_eq_true rfl) (by decide) (by decide) (by decide) dX4_split_86 (fun z86 L86 μ86 hp => ?_)
          obtain ⟨rfl, e86, hz86⟩ := hp
          replace e86 := e86.symm
          subst e86
          try simp (disch := decide) only [ot_rd, ot_rs, ot_rf, ot_ucd, ot_ucs] at hz86
          refine tt_if_eq X 98 (by rw [hz86]; split <;> omega) dX4_split_89 (by decide) (fun b89 => ?_) (fun b89 => ?_)
          · have hlt : ltB (T i) = false := ite_nil hz24 (by omega)
            have hdg : dgB (T i) = true := ite_one hz70 (by omega)
            have hen : enN T n i = j := en_dg hlt hdg hj hI3.2 (by first | exact Or.inl (by omega) | exact Or.inr (ite_nil hz86 (by omega)))
            refine tt_aload_n X rfl dX4_split_98 ?_
            refine tt_join1 114 [.inl (if j - i ≤ 4 then 20 else 22), .inr 49] ?_ (fun J114 => ?_)
            · refine tt_iload_n X rfl dX4_split_114 ?_
              refine tt_aload_n X rfl dX4_split_115 ?_
              refine tt_iload_n X rfl dX4_split_116 ?_
              refine tt_iload X rfl dX4_split_117 ?_
              have hdd : ∀ u, i ≤ u → u < j → 48 ≤ T u ∧ T u ≤ 57 := fun u h1 h2 => by
                have q : dgB (T u) = true := by
                  by_cases e1 : u = i
                  · rw [e1]; exact hdg
                  · exact hI3.2 u (by omega) h2
                unfold dgB at q
                exact of_decide_eq_true q
              refine tt_si X rfl mX4_78 (c_valueOf l g ln ext _ i j (by omega) T n (by simp (disch := decide) only [ot_rd, ot_rs, ot_rf, ot_ucd, ot_ucs, ot_rdf]; exact hT) hT2 hn (by omega) hdd) rfl rfl (Nat.le_of_ble_eq_true rfl) (by decide) (by decide) (by decide) dX4_split_119 (fun z119 L119 μ119 hp => ?_)
              obtain ⟨rfl, e119, hz119⟩ := hp
              replace e119 := e119.symm
              subst e119
              try simp (disch := decide) only [ot_rd, ot_rs, ot_rf, ot_ucd, ot_ucs] at hz119
              refine tt_top hz119 ?_
              refine tt_vv X rfl mX4_71 (c_put l g ln ext _ _ _ _ (by simp (disch := decide) only [ot_rd, ot_rs, ot_rf, ot_ucd, ot_ucs, ot_rdf]; omega)) (k_49 _ _) ⟨_, rfl, rfl⟩ rfl rfl (Nat.le_of_ble_eq_true rfl) (by decide) (by decide) (by decide) dX4_split_122 (fun L122 μ122 hp => ?_)
              obtain ⟨rfl, e122⟩ := hp
              subst e122
              simp (disch := decide) only [ot_rd, ot_rs, ot_rf, ot_ucd, ot_ucs, ot_rdf]
              have hpk := hpk0 (by omega) (blB_no (by unfold dgB at hdg; have := of_decide_eq_true hdg; omega))
              have htk := tk_dg (n := n) (i := i) (by omega) hlt hdg hen
              have hvl : tkN T n i = 20 → dvN T i (min (j - i) 4) = vlN T n i := fun _ => by unfold vlN; rw [hen]
              have hnx := tok_next (vv := (dvN T i (min (j - i) 4))) (by omega) hpk htk hvl hI.2.2
              refine tt_mem (μ' := ot_up (ot_uc (ot_uc (ot_uc μ 55 (up1 A (k : Int) (if j - i ≤ 4 then 20 else 22))) 56 (up1 B (k : Int) (i : Int))) 57 (up1 C (k : Int) (dvN T i (min (j - i) 4)))) 49 4 ((k + 1 : Nat) : Int)) (by funext q c1; by_cases w1 : q = 55 <;> by_cases w2 : q = 56 <;> by_cases w3 : q = 57 <;> by_cases w4 : q = 49 <;> by_cases w5 : c1 = 4 <;> simp [ot_up, ot_uc, up1, w1, w2, w3, w4, w5]) ?_
              refine tt_goto X 166 dX4_split_125 (by decide) ?_
              refine tt_iload X rfl dX4_split_166 ?_
              refine tt_istore_n X dX4_split_168 (by decide) ?_
              refine tt_goto X 7 dX4_split_169 (by decide) ?_
              refine tt_loc [(0, _), (1, _), (2, _), (3, _)] ⟨rfl, rfl, rfl, rfl, trivial⟩ ?_
              first
                | (have hbl : blB (T i) = true := decide_eq_true (by omega)
                   exact ih (i + 1, k, A, B, C) ⟨by show i + 1 ≤ n ∧ k ≤ i + 1; omega, by show psN T n k = skN T n (i + 1); rw [hI.2.1]; exact rnN_step (by omega) hbl, hI.2.2⟩ (by show n - (i + 1) < n - i; omega))
                | exact ih (j, k + 1, _, _, _) ⟨by show j ≤ n ∧ k + 1 ≤ j; omega, by show psN T n (k + 1) = skN T n j; rw [psN_s, hpk, if_pos (by omega), hen], hnx⟩ (by show n - j < n - i; omega)
                | exact ih (i + 1, k + 1, _, _, _) ⟨by show i + 1 ≤ n ∧ k + 1 ≤ i + 1; omega, by show psN T n (k + 1) = skN T n (i + 1); rw [psN_s, hpk, if_pos (by omega), hen], hnx⟩ (by show n - (i + 1) < n - i; omega)
            · refine tt_iload X rfl dX4_split_99 ?_
              refine tt_iload_n X rfl dX4_split_101 ?_
              refine tt_isub X dX4_split_102 ?_
              refine tt_iconst X dX4_split_103 ?_
              refine tt_icmp_gt X 112 (by first | omega | (simp (disch := decide) only [ot_rd, ot_rs, ot_rf, ot_ucd, ot_ucs]; omega)) dX4_split_104 (by decide) (fun b104 => ?_) (fun b104 => ?_)
              · refine tt_bipush X (by decide) dX4_split_112 ?_
                refine tt_top (show _ = (if j - i ≤ 4 then 20 else 22) by first | rw [if_pos (by omega)] | rw [if_neg (by omega)]) ?_
                exact J114
              · refine tt_bipush X (by decide) dX4_split_107 ?_
                refine tt_goto X 114 dX4_split_109 (by decide) ?_
                refine tt_top (show _ = (if j - i ≤ 4 then 20 else 22) by first | rw [if_pos (by omega)] | rw [if_neg (by omega)]) ?_
                exact J114
          · refine tt_iinc X dX4_split_92 rfl (by decide) ?_
            refine tt_goto X 76 dX4_split_95 (by decide) ?_
            refine tt_loc [(0, _), (1, _), (2, _), (3, _), (4, _), (5, _)] ⟨rfl, rfl, rfl, rfl, rfl, rfl, trivial⟩ ?_
            refine ih3 (j + 1) ⟨by omega, fun u h1 h2 => ?_⟩ (by omega)
            by_cases e1 : u = j
            · subst e1
              exact ite_one hz86 (by omega)
            · exact hI3.2 u h1 (by omega)
    · refine tt_loc [(0, _), (1, _), (2, _), (3, _), (4, _), (5, _)] ⟨rfl, rfl, rfl, rfl, rfl, rfl, trivial⟩ ?_
      refine tt_loop (α := Nat) (fun j => n - j) (fun j => (i + 1 ≤ j ∧ j ≤ n) ∧ ∀ u, i + 1 ≤ u → u < j → ltB (T u) = true) (fun j => ot_up (ot_uc (ot_uc (ot_uc μ 55 A) 56 B) 57 C) 49 4 (k : Int)) (fun j => [(0, .inr 49), (1, .inr 58), (2, .inl (n : Int)), (3, .inl (i : Int)), (4, .inl (j : Int)), (5, .inl (T i))]) (i + 1) ⟨⟨Nat.le_refl _, by omega⟩, fun u h1 h2 => by omega⟩ ?_
      intro j hI2 ih2
      try dsimp only at hI2 ih2 ⊢
      have hj := hI2.1
      refine tt_iload X rfl dX4_split_30 ?_
      refine tt_iload_n X rfl dX4_split_32 ?_
      refine tt_icmp_ge X 52 (by first | omega | (simp (disch := decide) only [ot_rd, ot_rs, ot_rf, ot_ucd, ot_ucs]; omega)) dX4_split_33 (by decide) (fun b33 => ?_) (fun b33 => ?_)
      · have hen : enN T n i = j := en_lt (ite_one hz24 (by omega)) hj hI2.2 (by first | exact Or.inl (by omega) | exact Or.inr (ite_nil hz40 (by omega)))
        refine tt_aload_n X rfl dX4_split_52 ?_
        refine tt_aload_n X rfl dX4_split_53 ?_
        refine tt_iload_n X rfl dX4_split_54 ?_
        refine tt_iload X rfl dX4_split_55 ?_
        refine tt_si X rfl mX4_67 (c_keywordOf l g ln ext _ hgz i j (by omega) T n (by simp (disch := decide) only [ot_rd, ot_rs, ot_rf, ot_ucd, ot_ucs, ot_rdf]; exact hT) hT2 hn (by omega)) rfl rfl (Nat.le_of_ble_eq_true rfl) (by decide) (by decide) (by decide) dX4_split_57 (fun z57 L57 μ57 hp => ?_)
        obtain ⟨rfl, e57, hz57⟩ := hp
        replace e57 := e57.symm
        subst e57
        try simp (disch := decide) only [ot_rd, ot_rs, ot_rf, ot_ucd, ot_ucs] at hz57
        refine tt_top hz57 ?_
        refine tt_iload_n X rfl dX4_split_60 ?_
        refine tt_iconst X dX4_split_61 ?_
        refine tt_vv X rfl mX4_71 (c_put l g ln ext _ _ _ _ (by simp (disch := decide) only [ot_rd, ot_rs, ot_rf, ot_ucd, ot_ucs, ot_rdf]; omega)) (k_49 _ _) ⟨_, rfl, rfl⟩ rfl rfl (Nat.le_of_ble_eq_true rfl) (by decide) (by decide) (by decide) dX4_split_62 (fun L62 μ62 hp => ?_)
        obtain ⟨rfl, e62⟩ := hp
        subst e62
        simp (disch := decide) only [ot_rd, ot_rs, ot_rf, ot_ucd, ot_ucs, ot_rdf]
        have hlt : ltB (T i) = true := ite_one hz24 (by omega)
        have hpk := hpk0 (by omega) (blB_no (by unfold ltB at hlt; have := of_decide_eq_true hlt; omega))
        have htk := tk_lt (n := n) (i := i) (by omega) hlt hen
        have hvl : tkN T n i = 20 → (0 : Int) = vlN T n i := fun q => absurd (htk.symm.trans q) kw_20
        have hnx := tok_next (vv := 0) (by omega) hpk htk hvl hI.2.2
        refine tt_mem (μ' := ot_up (ot_uc (ot_uc (ot_uc μ 55 (up1 A (k : Int) (if kwN T i j < 14 then (kwN T i j : Int) else 22))) 56 (up1 B (k : Int) (i : Int))) 57 (up1 C (k : Int) 0)) 49 4 ((k + 1 : Nat) : Int)) (by funext q c1; by_cases w1 : q = 55 <;> by_cases w2 : q = 56 <;> by_cases w3 : q = 57 <;> by_cases w4 : q = 49 <;> by_cases w5 : c1 = 4 <;> simp [ot_up, ot_uc, up1, w1, w2, w3, w4, w5]) ?_
        refine tt_goto X 166 dX4_split_65 (by decide) ?_
        refine tt_iload X rfl dX4_split_166 ?_
        refine tt_istore_n X dX4_split_168 (by decide) ?_
        refine tt_goto X 7 dX4_split_169 (by decide) ?_
        refine tt_loc [(0, _), (1, _), (2, _), (3, _)] ⟨rfl, rfl, rfl, rfl, trivial⟩ ?_
        first
          | (have hbl : blB (T i) = true := decide_eq_true (by omega)
             exact ih (i + 1, k, A, B, C) ⟨by show i + 1 ≤ n ∧ k ≤ i + 1; omega, by show psN T n k = skN T n (i + 1); rw [hI.2.1]; exact rnN_step (by omega) hbl, hI.2.2⟩ (by show n - (i + 1) < n - i; omega))
          | exact ih (j, k + 1, _, _, _) ⟨by show j ≤ n ∧ k + 1 ≤ j; omega, by show psN T n (k + 1) = skN T n j; rw [psN_s, hpk, if_pos (by omega), hen], hnx⟩ (by show n - j < n - i; omega)
          | exact ih (i + 1, k + 1, _, _, _) ⟨by show i + 1 ≤ n ∧ k + 1 ≤ i + 1; omega, by show psN T n (k + 1) = skN T n (i + 1); rw [psN_s, hpk, if_pos (by omega), hen], hnx⟩ (by show n - (i + 1) < n - i; omega)
      · refine tt_aload_n X rfl dX4_split_36 ?_
        refine tt_iload X rfl dX4_split_37 ?_
        refine tt_iaload X (k_58 _ _) (by first | omega | (simp (disch := decide) only [ot_rd, ot_rs, ot_rf, ot_ucd, ot_ucs]; omega)) dX4_split_39 ?_
        try simp (disch := decide) only [ot_rd, ot_rs, ot_rf, ot_ucd, ot_ucs]
        have hTj := hT2 j
        refine tt_top (hT j (by omega)) ?_
        refine tt_si X rfl mX4_63 (c_isLetter l g ln ext _ (T j) (by omega)) rfl rfl (Nat.le_of_ble_eq_true rfl) (by decide) (by decide) (by decide) dX4_split_40 (fun z40 L40 μ40 hp => ?_)
        obtain ⟨rfl, e40, hz40⟩ := hp
        replace e40 := e40.symm
        subst e40
        try simp (disch := decide) only [ot_rd, ot_rs, ot_rf, ot_ucd, ot_ucs] at hz40
        refine tt_if_eq X 52 (by rw [hz40]; split <;> omega) dX4_split_43 (by decide) (fun b43 => ?_) (fun b43 => ?_)
        · have hen : enN T n i = j := en_lt (ite_one hz24 (by omega)) hj hI2.2 (by first | exact Or.inl (by omega) | exact Or.inr (ite_nil hz40 (by omega)))
          refine tt_aload_n X rfl dX4_split_52 ?_
          refine tt_aload_n X rfl dX4_split_53 ?_
          refine tt_iload_n X rfl dX4_split_54 ?_
          refine tt_iload X rfl dX4_split_55 ?_
          refine tt_si X rfl mX4_67 (c_keywordOf l g ln ext _ hgz i j (by omega) T n (by simp (disch := decide) only [ot_rd, ot_rs, ot_rf, ot_ucd, ot_ucs, ot_rdf]; exact hT) hT2 hn (by omega)) rfl rfl (Nat.le_of_ble_eq_true rfl) (by decide) (by decide) (by decide) dX4_split_57 (fun z57 L57 μ57 hp => ?_)
          obtain ⟨rfl, e57, hz57⟩ := hp
          replace e57 := e57.symm
          subst e57
          try simp (disch := decide) only [ot_rd, ot_rs, ot_rf, ot_ucd, ot_ucs] at hz57
          refine tt_top hz57 ?_
          refine tt_iload_n X rfl dX4_split_60 ?_
          refine tt_iconst X dX4_split_61 ?_
          refine tt_vv X rfl mX4_71 (c_put l g ln ext _ _ _ _ (by simp (disch := decide) only [ot_rd, ot_rs, ot_rf, ot_ucd, ot_ucs, ot_rdf]; omega)) (k_49 _ _) ⟨_, rfl, rfl⟩ rfl rfl (Nat.le_of_ble_eq_true rfl) (by decide) (by decide) (by decide) dX4_split_62 (fun L62 μ62 hp => ?_)
          obtain ⟨rfl, e62⟩ := hp
          subst e62
          simp (disch := decide) only [ot_rd, ot_rs, ot_rf, ot_ucd, ot_ucs, ot_rdf]
          have hlt : ltB (T i) = true := ite_one hz24 (by omega)
          have hpk := hpk0 (by omega) (blB_no (by unfold ltB at hlt; have := of_decide_eq_true hlt; omega))
          have htk := tk_lt (n := n) (i := i) (by omega) hlt hen
          have hvl : tkN T n i = 20 → (0 : Int) = vlN T n i := fun q => absurd (htk.symm.trans q) kw_20
          have hnx := tok_next (vv := 0) (by omega) hpk htk hvl hI.2.2
          refine tt_mem (μ' := ot_up (ot_uc (ot_uc (ot_uc μ 55 (up1 A (k : Int) (if kwN T i j < 14 then (kwN T i j : Int) else 22))) 56 (up1 B (k : Int) (i : Int))) 57 (up1 C (k : Int) 0)) 49 4 ((k + 1 : Nat) : Int)) (by funext q c1; by_cases w1 : q = 55 <;> by_cases w2 : q = 56 <;> by_cases w3 : q = 57 <;> by_cases w4 : q = 49 <;> by_cases w5 : c1 = 4 <;> simp [ot_up, ot_uc, up1, w1, w2, w3, w4, w5]) ?_
          refine tt_goto X 166 dX4_split_65 (by decide) ?_
          refine tt_iload X rfl dX4_split_166 ?_
          refine tt_istore_n X dX4_split_168 (by decide) ?_
          refine tt_goto X 7 dX4_split_169 (by decide) ?_
          refine tt_loc [(0, _), (1, _), (2, _), (3, _)] ⟨rfl, rfl, rfl, rfl, trivial⟩ ?_
          first
            | (have hbl : blB (T i) = true := decide_eq_true (by omega)
               exact ih (i + 1, k, A, B, C) ⟨by show i + 1 ≤ n ∧ k ≤ i + 1; omega, by show psN T n k = skN T n (i + 1); rw [hI.2.1]; exact rnN_step (by omega) hbl, hI.2.2⟩ (by show n - (i + 1) < n - i; omega))
            | exact ih (j, k + 1, _, _, _) ⟨by show j ≤ n ∧ k + 1 ≤ j; omega, by show psN T n (k + 1) = skN T n j; rw [psN_s, hpk, if_pos (by omega), hen], hnx⟩ (by show n - j < n - i; omega)
            | exact ih (i + 1, k + 1, _, _, _) ⟨by show i + 1 ≤ n ∧ k + 1 ≤ i + 1; omega, by show psN T n (k + 1) = skN T n (i + 1); rw [psN_s, hpk, if_pos (by omega), hen], hnx⟩ (by show n - (i + 1) < n - i; omega)
        · refine tt_iinc X dX4_split_46 rfl (by decide) ?_
          refine tt_goto X 30 dX4_split_49 (by decide) ?_
          refine tt_loc [(0, _), (1, _), (2, _), (3, _), (4, _), (5, _)] ⟨rfl, rfl, rfl, rfl, rfl, rfl, trivial⟩ ?_
          refine ih2 (j + 1) ⟨by omega, fun u h1 h2 => ?_⟩ (by omega)
          by_cases e1 : u = j
          · subst e1
            exact ite_one hz40 (by omega)
          · exact hI2.2 u h1 (by omega)

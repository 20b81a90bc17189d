theorem wr_cd {b : Nat} {cs : CL} {F G : Int → Int} (h : cdF 0 cs F) (hl : cs.length ≤ 400) : cdF 0 cs (wr 400 G F) := by
  intro i x hx
  have hi : i < cs.length := by
    apply Classical.byContradiction
    intro w
    rw [List.getElem?_eq_none (by omega)] at hx
    cases hx
  rw [← h i x hx]
  exact wr_in (old := G) (new := F) ⟨by omega, by omega⟩
set_option maxRecDepth 100000 in
set_option maxHeartbeats 1000000 in
theorem c_text (l : Launch) (g : ot_G) (ln : Nat) (ext : ot_L) (μ : ot_M) (hgz : ot_gz g) (hb53 : b53 μ) (T : Nat → Int) (n : Nat) (hT : ∀ k, k < n → μ 58 (k : Int) = T k) (hT2 : ∀ k, 0 ≤ T k ∧ T k ≤ 255) (hn : n ≤ 400) (hnt : μ 0 10 = (n : Int))  : ot_C l g yX9_text cX9_text 1 (some .int) 34 0 0 [.inr 0] (LL ln ext) μ (ot_pi (fun r L2 μ2 => L2 = LL ln ext ∧ (∀ k, k ≠ 0 → k ≠ 12 → k ≠ 13 → k ≠ 14 → k ≠ 15 → k < 49 ∨ 57 < k → μ2 k = μ k) ∧ (∀ i, i ≠ 10 → i ≠ 11 → i ≠ 12 → μ2 0 i = μ 0 i) ∧ μ2 0 10 = 0 ∧ b53 μ2 ∧ ∃ tr : TR, tR1 (tkT T n) (vlT T n) (0, []) tr ∧ match tr with | .inl f => r = -1 ∧ μ2 0 11 = f.1 ∧ μ2 0 12 = (plT T n) f.2 ∧ (1 ≤ f.1 ∧ f.1 ≤ 3) ∧ μ2 12 = μ 12 ∧ μ2 13 = μ 13 ∧ μ2 14 = μ 14 ∧ μ2 15 = μ 15 | .inr ls => r = (ls.length : Int) ∧ μ2 0 11 = 0 ∧ μ2 0 12 = -1 ∧ ls.length ≤ 16 ∧ μ2 12 4 = (ls.length : Int) ∧ (∀ i, i ≠ 4 → μ2 12 i = μ 12 i) ∧ (fl ls).length ≤ 400 ∧ cdF 0 (fl ls) (μ2 13) ∧ (∀ (i : Nat) (x : Int × CL), ls[i]? = some x → μ2 14 (i : Int) = ((fl (ls.take (i + 1))).length : Int) ∧ μ2 15 (i : Int) = (if x.1 = 0 then 1 else 0) ∧ (x.1 = 0 ∨ x.1 = 1)) ∧ (∀ i, 0 ≤ i → i < 16 → μ2 15 i = 0 ∨ μ2 15 i = 1))) := by
  refine ot_enter (by decide) (Nat.le_of_ble_eq_true rfl) ?_
  intro p e s m args below meth c X hr
  refine tt_aload_n X rfl dX9_text_0 ?_
  refine tt_getr X fX9_67 (k_0 _ _) (by decide) ⟨nofun, nofun⟩ rfl dX9_text_1 ?_
  refine tt_aload_n X rfl dX9_text_4 ?_
  refine tt_getr X fX9_71 (k_0 _ _) (by decide) ⟨nofun, nofun⟩ rfl dX9_text_5 ?_
  refine tt_aload_n X rfl dX9_text_8 ?_
  refine tt_geti X fX9_157 (k_0 _ _) (by decide) (Or.inl rfl) dX9_text_9 ?_
  refine tt_top hnt ?_
  refine tt_vv X rfl mX9_163 (c_read l g ln ext _ hgz hb53 T n hT hT2 hn) (k_49 _ _) ⟨_, rfl, rfl⟩ rfl rfl (Nat.le_of_ble_eq_true rfl) (by decide) (by decide) (by decide) dX9_text_12 (fun L12 μ12 hp => ?_)
  obtain ⟨rfl, hk12, hb12, tr, htr, hm12⟩ := hp
  have h49 : 0 ≤ μ12 49 8 ∧ μ12 49 8 ≤ 3 := by
    cases tr with
    | inl f => have := hm12.1; have := hm12.2.1; omega
    | inr ls => have := hm12.1; omega
  refine tt_aload_n X rfl dX9_text_15 ?_
  refine tt_iconst X dX9_text_16 ?_
  refine tt_puti X fX9_157 kc_9 (k_0 _ _) (by decide) (fun q hq => by cases hq; rfl) rfl dX9_text_17 ?_
  refine tt_aload_n X rfl dX9_text_20 ?_
  refine tt_aload_n X rfl dX9_text_21 ?_
  refine tt_getr X fX9_67 (k_0 _ _) (by decide) ⟨nofun, nofun⟩ rfl dX9_text_22 ?_
  refine tt_geti X fX9_167 (k_49 _ _) (by decide) (Or.inl rfl) dX9_text_25 ?_
  try simp (disch := decide) only [ot_rd, ot_rs, ot_rf, ot_ucd, ot_ucs]
  refine tt_puti X fX9_170 kc_9 (k_0 _ _) (by decide) (fun q hq => by cases hq; rfl) rfl dX9_text_28 ?_
  refine tt_aload_n X rfl dX9_text_31 ?_
  refine tt_aload_n X rfl dX9_text_32 ?_
  refine tt_getr X fX9_67 (k_0 _ _) (by decide) ⟨nofun, nofun⟩ rfl dX9_text_33 ?_
  refine tt_geti X fX9_173 (k_49 _ _) (by decide) (Or.inl rfl) dX9_text_36 ?_
  try simp (disch := decide) only [ot_rd, ot_rs, ot_rf, ot_ucd, ot_ucs]
  refine tt_puti X fX9_75 kc_9 (k_0 _ _) (by decide) (fun q hq => by cases hq; rfl) rfl dX9_text_39 ?_
  refine tt_aload_n X rfl dX9_text_42 ?_
  refine tt_geti X fX9_170 (k_0 _ _) (by decide) (Or.inl rfl) dX9_text_43 ?_
  try simp (disch := decide) only [ot_rd, ot_rs, ot_rf, ot_ucd, ot_ucs]
  refine tt_if_eq X 51 (by first | omega | (simp (disch := decide) only [ot_rd, ot_rs, ot_rf, ot_ucd, ot_ucs]; omega)) dX9_text_46 (by decide) (fun b46 => ?_) (fun b46 => ?_)
  · refine tt_aload_n X rfl dX9_text_51 ?_
    refine tt_getr X fX9_12 (k_0 _ _) (by decide) ⟨nofun, nofun⟩ rfl dX9_text_52 ?_
    refine tt_getr X fX9_176 (k_1 _ _) (by decide) ⟨nofun, nofun⟩ rfl dX9_text_55 ?_
    refine tt_aload_n X rfl dX9_text_58 ?_
    refine tt_getr X fX9_67 (k_0 _ _) (by decide) ⟨nofun, nofun⟩ rfl dX9_text_59 ?_
    refine tt_getr X fX9_180 (k_49 _ _) (by decide) ⟨nofun, nofun⟩ rfl dX9_text_62 ?_
    refine tt_vv X rfl mX9_183 (c_lawTakeR l g ln ext _ (by intro i i1 i2; have := hb12 i i1 i2; simpa [ot_up, ot_uc] using this)) (k_12 _ _) ⟨_, rfl, rfl⟩ rfl rfl (Nat.le_of_ble_eq_true rfl) (by decide) (by decide) (by decide) dX9_text_65 (fun L65 μ65 hp => ?_)
    obtain ⟨rfl, e65⟩ := hp
    simp (disch := decide) only [ot_rd, ot_rs, ot_rf, ot_ucd, ot_ucs, ot_rdf] at e65
    subst e65
    refine tt_aload_n X rfl dX9_text_68 ?_
    refine tt_getr X fX9_12 (k_0 _ _) (by decide) ⟨nofun, nofun⟩ rfl dX9_text_69 ?_
    refine tt_getr X fX9_176 (k_1 _ _) (by decide) ⟨nofun, nofun⟩ rfl dX9_text_72 ?_
    refine tt_geti X fX9_189 (k_12 _ _) (by decide) (Or.inl rfl) dX9_text_75 ?_
    try simp (disch := decide) only [ot_rd, ot_rs, ot_rf, ot_ucd, ot_ucs]
    refine tt_iret X ⟨hr.1, hr.2.1⟩ (by decide) (by decide) dX9_text_78 ?_
    cases tr with
    | inl f => exact absurd hm12.2.1 (by have := hm12.1; first | omega | (simp [ot_up] at b46; omega))
    | inr ls =>
      obtain ⟨q1, q2, q3, q4, q5, q6⟩ := hm12
      refine ⟨rfl, fun k a0 a1 a2 a3 a4 a5 => ?_, fun i a1 a2 a3 => ?_, ?_, ?_, .inr ls, htr, ?_, ?_, ?_, q3, ?_, fun i a1 => ?_, q5, ?_, fun i x hx => ?_, fun i i1 i2 => ?_⟩
      · rw [← hk12 k a5]; funext i2; simp [ot_up, ot_uc, a0, a1, a2, a3, a4]
      · rw [← hk12 0 (by decide)]; simp [ot_up, ot_uc, a1, a2, a3]
      · simp [ot_up, ot_uc]
      · intro i i1 i2; have := hb12 i i1 i2; simpa [ot_up, ot_uc] using this
      · rw [← q4.1]; try simp [ot_up, ot_uc]
      · rw [← q1]; try simp [ot_up, ot_uc]
      · rw [← q2]; try simp [ot_up, ot_uc]
      · rw [← q4.1]; try simp [ot_up, ot_uc]
      · rw [← hk12 12 (by decide)]; simp [ot_up, ot_uc, a1]
      · have := wr_cd (b := 0) (G := μ12 13) q6 q5
        intro i x hx
        rw [← this i x hx]
        simp [ot_up, ot_uc]
      · have h1 := q4.2 i x hx
        have hi : i < ls.length := by
          apply Classical.byContradiction
          intro w
          rw [List.getElem?_eq_none (by omega)] at hx
          cases hx
        have e1 : wr 16 (μ12 14) (μ12 52) (i : Int) = μ12 52 (i : Int) := wr_in (old := μ12 14) (new := μ12 52) ⟨by omega, by omega⟩
        have e2 : wr 16 (μ12 15) (μ12 53) (i : Int) = μ12 53 (i : Int) := wr_in (old := μ12 15) (new := μ12 53) ⟨by omega, by omega⟩
        refine ⟨?_, ?_, h1.2.2⟩
        · rw [← h1.1, ← e1]; try simp [ot_up, ot_uc]
        · rw [← h1.2.1, ← e2]; try simp [ot_up, ot_uc]
      · have e2 : wr 16 (μ12 15) (μ12 53) i = μ12 53 i := wr_in (old := μ12 15) (new := μ12 53) ⟨by omega, by omega⟩
        have := hb12 i i1 i2
        rw [← e2] at this
        simpa [ot_up, ot_uc] using this
  · refine tt_iconst X dX9_text_49 ?_
    refine tt_iret X ⟨hr.1, hr.2.1⟩ (by decide) (by decide) dX9_text_50 ?_
    cases tr with
    | inr ls => exact absurd hm12.1 (by first | omega | (simp [ot_up] at b46; omega))
    | inl f =>
      refine ⟨rfl, fun k a0 a1 a2 a3 a4 a5 => ?_, fun i a1 a2 a3 => ?_, ?_, ?_, .inl f, htr, rfl, ?_, ?_, hm12.2.1, ?_, ?_, ?_, ?_⟩
      · rw [← hk12 k a5]; funext i2; simp [ot_up, a0]
      · rw [← hk12 0 (by decide)]; simp [ot_up, a1, a2, a3]
      · simp [ot_up, ot_uc]
      · intro i i1 i2; have := hb12 i i1 i2; simpa [ot_up, ot_uc] using this
      · rw [← hm12.1]; try simp [ot_up, ot_uc]
      · rw [← hm12.2.2]; try simp [ot_up, ot_uc]
      · rw [← hk12 12 (by decide)]; funext i2; try simp [ot_up, ot_uc]
      · rw [← hk12 13 (by decide)]; funext i2; try simp [ot_up, ot_uc]
      · rw [← hk12 14 (by decide)]; funext i2; try simp [ot_up, ot_uc]
      · rw [← hk12 15 (by decide)]; funext i2; try simp [ot_up, ot_uc]

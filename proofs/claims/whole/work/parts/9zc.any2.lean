def anO (T : Nat → Int) (n : Nat) (μb : ot_M) (b : Nat) (f0 h0 : Int → Int) (o : RS) (r : Int) (σ : ot_M) : Prop := match o with
  | .inl f => r = -1 ∧ qF2 T n μb f0 h0 f σ
  | .inr u => r = 0 ∧ qT T n μb b f0 h0 u [] σ ∧ b + u.2.length ≤ u.1 ∧ tkT T n (u.1 - 1) ≠ 21
set_option maxRecDepth 100000 in
set_option maxHeartbeats 1000000 in
theorem q_readAny (l : Launch) (g : ot_G) (ln : Nat) (ext : ot_L) (μ : ot_M) (T : Nat → Int) (n b : Nat) (f0 h0 : Int → Int) (hg : qG T n μ) (q : Nat × CL) (hs : qS T n μ b f0 h0 q μ) (h30 : μ 60 30 = 0) (hroom : b + q.2.length ≤ q.1) (hlast : tkT T n (q.1 - 1) ≠ 21)  : ot_C l g yX10_readAny cX10_readAny 4 (some .int) 8 0 0 [.inr 60] (LL ln ext) μ (ot_pi (fun r L2 μ2 => L2 = LL ln ext ∧ ∃ o, bR (tkT T n) (vlT T n) (true, q.1, [], q.2) o ∧ anO T n μ b f0 h0 o r μ2)) := by
  refine ot_enter (by decide) (Nat.le_of_ble_eq_true rfl) ?_
  intro p e s m args below meth c X hr
  obtain ⟨gT, gT2, gn, gt, gw⟩ := id hg
  refine tt_iconst X dX10_readAny_0 ?_
  refine tt_istore_n X dX10_readAny_1 (by decide) ?_
  refine tt_aload_n X rfl dX10_readAny_2 ?_
  refine tt_iconst X dX10_readAny_3 ?_
  refine tt_puti X fX10_196 kc_10 (k_60 _ _) (by decide) (fun q hq => by cases hq; rfl) rfl dX10_readAny_4 ?_
  refine tt_iconst X dX10_readAny_7 ?_
  refine tt_istore_n X dX10_readAny_8 (by decide) ?_
  have h9 : anI T n μ b f0 h0 q (ot_up μ 60 32 0) true q [] := by
    refine ⟨⟨⟨fun k w1 w2 w3 w4 => ?_, fun i w1 w2 w3 w4 w5 w6 w7 w8 w9 => ?_⟩, ?_, ?_, ?_, ?_⟩, fun x => Iff.rfl, trivial, Nat.zero_le _, (fun e => by cases e), hroom, hlast⟩
    · funext i; simp [ot_up, w1]
    · simp [ot_up, w7]
    · refine qS_same hs (fun i hi => ?_) ?_ ?_
      · have : i ≠ 32 := by omega
        simp [ot_up, this]
      · funext i; simp [ot_up]
      · funext i; simp [ot_up]
    · simp [ot_up]
    · simp [ot_up, h30, cnO]
    · intro i p hp; simp at hp
  refine tt_loc [(0, _), (1, _), (2, _)] ⟨rfl, rfl, rfl, trivial⟩ ?_
  refine tt_loop (α := ot_M × Bool × (Nat × CL) × List Int) (fun ((σ, due, q1, P)) => n - psN T n q1.1) (fun ((σ, due, q1, P)) => anI T n μ b f0 h0 q σ due q1 P) (fun ((σ, due, q1, P)) => σ) (fun ((σ, due, q1, P)) => [(0, .inr 60), (1, .inl ((cnB P : Nat) : Int)), (2, .inl (if due = true then 1 else 0))]) (ot_up μ 60 32 0, true, q, []) h9 ?_
  intro a hI ih
  obtain ⟨σ, due, q1, P⟩ := a
  try dsimp only at hI ih ⊢
  replace hI : anI T n μ b f0 h0 q σ due q1 P := hI
  have htq1 := hI.1.2.1.2.2.2.1
  have h201 := tqR_20 htq1
  have h211 := hI.1.2.1.2.2.2.2.1
  have h32 := hI.1.2.2.1
  have h30b := hI.1.2.2.2.1
  have hokP := hI.2.2.1
  have hc8 := hI.2.2.2.1
  have hl26 := okP_len hokP hc8
  have hcbo := cnB_cnO P
  have hrm := hI.2.2.2.2.2.1
  have k5 := tq_word htq1 5 (by omega)
  have k4 := tq_word htq1 4 (by omega)
  have k3 := tq_word htq1 3 (by omega)
  have k40 := tq_sign htq1 40 (by omega)
  have etk : tkT T n q1.1 = tkN T n (psN T n q1.1) := rfl
  have hix : q1.1 ≤ 400 := by
    have hd := tk_lt_n hI.2.2.2.2.2.2
    have := psN_idx hd
    omega
  refine tt_iload_n X rfl dX10_readAny_9 ?_
  refine tt_if_eq X 108 (by split <;> omega) dX10_readAny_10 (by decide) (fun b10 => ?_) (fun b10 => ?_)
  · have hdue : due = false := by
      cases due
      · rfl
      · exact absurd b10 (by decide)
    subst hdue
    have hok10 := stl_ok (w := 10) (by decide) P q1.2 hokP
    have hc10 : cnO (stl 10 P q1.2).1 ≤ 8 := Nat.le_trans (stl_cnO P q1.2) hc8
    have hsa := sAO_ok hokP q1.2
    refine tt_aload_n X rfl dX10_readAny_108 ?_
    refine tt_iconst X dX10_readAny_109 ?_
    refine tt_vi X rfl mX10_202 (q_isWord l g ln ext _ 4 (by omega) (by have := tqR_20 hI.1.2.1.2.2.2.1; omega) (by have := hI.1.2.1.2.2.2.2.1; omega)) (k_60 _ _) ⟨_, rfl, rfl⟩ rfl rfl (Nat.le_of_ble_eq_true rfl) (by decide) (by decide) (by decide) dX10_readAny_110 (fun z110 L110 μ110 hp => ?_)
    obtain ⟨rfl, e110, hz110⟩ := hp
    replace e110 := e110.symm
    subst e110
    have hw110 : (z110 = 1 ∧ tkT T n q1.1 = 4) ∨ (z110 = 0 ∧ tkT T n q1.1 ≠ 4) := by
      rw [hz110]
      by_cases w : σ 60 20 = 2 ∧ σ 60 21 = 4
      · rw [if_pos w]; exact Or.inl ⟨rfl, k4.mp w⟩
      · rw [if_neg w]; exact Or.inr ⟨rfl, fun h => w (k4.mpr h)⟩
    clear hz110
    try simp (disch := decide) only [ot_rd, ot_rs, ot_rf, ot_ucd, ot_ucs] at hz110
    refine tt_if_eq X 137 (by first | omega | (simp (disch := decide) only [ot_rd, ot_rs, ot_rf, ot_ucd, ot_ucs]; omega)) dX10_readAny_113 (by decide) (fun b113 => ?_) (fun b113 => ?_)
    · refine tt_aload_n X rfl dX10_readAny_137 ?_
      refine tt_iconst X dX10_readAny_138 ?_
      refine tt_vi X rfl mX10_202 (q_isWord l g ln ext _ 3 (by omega) (by have := tqR_20 hI.1.2.1.2.2.2.1; omega) (by have := hI.1.2.1.2.2.2.2.1; omega)) (k_60 _ _) ⟨_, rfl, rfl⟩ rfl rfl (Nat.le_of_ble_eq_true rfl) (by decide) (by decide) (by decide) dX10_readAny_139 (fun z139 L139 μ139 hp => ?_)
      obtain ⟨rfl, e139, hz139⟩ := hp
      replace e139 := e139.symm
      subst e139
      have hw139 : (z139 = 1 ∧ tkT T n q1.1 = 3) ∨ (z139 = 0 ∧ tkT T n q1.1 ≠ 3) := by
        rw [hz139]
        by_cases w : σ 60 20 = 2 ∧ σ 60 21 = 3
        · rw [if_pos w]; exact Or.inl ⟨rfl, k3.mp w⟩
        · rw [if_neg w]; exact Or.inr ⟨rfl, fun h => w (k3.mpr h)⟩
      clear hz139
      try simp (disch := decide) only [ot_rd, ot_rs, ot_rf, ot_ucd, ot_ucs] at hz139
      refine tt_if_eq X 172 (by first | omega | (simp (disch := decide) only [ot_rd, ot_rs, ot_rf, ot_ucd, ot_ucs]; omega)) dX10_readAny_142 (by decide) (fun b142 => ?_) (fun b142 => ?_)
      · have n4 : tkT T n q1.1 ≠ 4 := by omega
        have n3 : tkT T n q1.1 ≠ 3 := by omega
        refine tt_aload_n X rfl dX10_readAny_172 ?_
        refine tt_bipush X (by decide) dX10_readAny_173 ?_
        refine tt_vv X rfl mX10_211 (q_settles l g ln ext _ 10 (by omega) T n μ b f0 h0 q1 P hI.1 (by omega) (by have := okP_len hokP hc8; omega) (okP_in _ (hokP))) (k_60 _ _) ⟨_, rfl, rfl⟩ rfl rfl (Nat.le_of_ble_eq_true rfl) (by decide) (by decide) (by decide) dX10_readAny_175 (fun L175 μ175 hp => ?_)
        obtain ⟨rfl, hs175⟩ := hp
        refine tt_aload_n X rfl dX10_readAny_178 ?_
        refine tt_bipush X (by decide) dX10_readAny_179 ?_
        refine tt_vv X rfl mX10_211 (q_settles l g ln ext _ 11 (by omega) T n μ b f0 h0 (q1.1, (stl 10 P q1.2).2) (stl 10 P q1.2).1 hs175 (by show b + (stl 10 P q1.2).2.length + nbP (stl 10 P q1.2).1 ≤ 400; have := hok10.2.2; omega) (by have := okP_len hok10.1 hc10; omega) (okP_in _ (hok10.1))) (k_60 _ _) ⟨_, rfl, rfl⟩ rfl rfl (Nat.le_of_ble_eq_true rfl) (by decide) (by decide) (by decide) dX10_readAny_181 (fun L181 μ181 hp => ?_)
        obtain ⟨rfl, hs181⟩ := hp
        replace hs181 : qT T n μ b f0 h0 (q1.1, (sAO P q1.2).2) (sAO P q1.2).1 μ181 := hs181
        refine tt_iload_n X rfl dX10_readAny_184 ?_
        refine tt_if_ne X 190 (by first | omega | (simp (disch := decide) only [ot_rd, ot_rs, ot_rf, ot_ucd, ot_ucs]; omega)) dX10_readAny_185 (by decide) (fun b185 => ?_) (fun b185 => ?_)
        · have hcb0 : cnB (sAO P q1.2).1 ≠ 0 := by have := hsa.2.2.2; omega
          have k41 := tq_sign hs181.2.1.2.2.2.1 41 (by omega)
          refine tt_aload_n X rfl dX10_readAny_190 ?_
          refine tt_bipush X (by decide) dX10_readAny_191 ?_
          refine tt_vi X rfl mX10_187 (q_isSign l g ln ext _ 41 (by omega) (by have := tqR_20 hs181.2.1.2.2.2.1; omega) (by have := hs181.2.1.2.2.2.2.1; omega)) (k_60 _ _) ⟨_, rfl, rfl⟩ rfl rfl (Nat.le_of_ble_eq_true rfl) (by decide) (by decide) (by decide) dX10_readAny_193 (fun z193 L193 μ193 hp => ?_)
          obtain ⟨rfl, e193, hz193⟩ := hp
          replace e193 := e193.symm
          subst e193
          have hw193 : (z193 = 1 ∧ tkT T n q1.1 = 41) ∨ (z193 = 0 ∧ tkT T n q1.1 ≠ 41) := by
            rw [hz193]
            by_cases w : μ181 60 20 = 4 ∧ μ181 60 21 = 41
            · rw [if_pos w]; exact Or.inl ⟨rfl, k41.mp w⟩
            · rw [if_neg w]; exact Or.inr ⟨rfl, fun h => w (k41.mpr h)⟩
          clear hz193
          try simp (disch := decide) only [ot_rd, ot_rs, ot_rf, ot_ucd, ot_ucs] at hz193
          refine tt_if_ne X 205 (by first | omega | (simp (disch := decide) only [ot_rd, ot_rs, ot_rf, ot_ucd, ot_ucs]; omega)) dX10_readAny_196 (by decide) (fun b196 => ?_) (fun b196 => ?_)
          · have ht4 : tkT T n q1.1 = 41 := by omega
            have hlt1 : psN T n q1.1 < n := tk_lt_n (by omega)
            obtain ⟨Q, hQ⟩ : ∃ Q, (sAO P q1.2).1 = 12 :: Q := by
              have htp := sAO_top (cs := q1.2) hokP (hI.2.2.2.2.1 rfl)
              cases hP2 : (sAO P q1.2).1 with
              | nil => rw [hP2] at hcb0; exact absurd rfl hcb0
              | cons t Q => exact ⟨Q, by rw [htp t Q hP2]⟩
            have hs205 := hs181
            rw [hQ] at hs205
            have hsa2 := hsa
            rw [hQ] at hsa2
            have hokQ : okP Q := hsa2.1.1
            have hcnQ : cnO (12 :: Q) = cnO Q + 1 := by show cnO Q + (if (12 : Int) = 9 ∨ (12 : Int) = 12 then 1 else 0) = _; rw [if_pos (by decide)]
            have hnbQ : nbP (12 :: Q) = nbP Q := by show nbP Q + (if (12 : Int) = 12 then 0 else 1) = _; rw [if_pos rfl]; rfl
            have hcbQ : cnB (12 :: Q) = cnB Q + 1 := by show cnB Q + (if (12 : Int) = 12 then 1 else 0) = _; rw [if_pos rfl]
            have hc8Q : cnO Q ≤ 8 := by have := hsa2.2.2.1; omega
            have hrmQ := hsa2.2.1
            have hcbP := hsa2.2.2.2
            refine tt_aload_n X rfl dX10_readAny_205 ?_
            refine tt_aload_n X rfl dX10_readAny_206 ?_
            refine tt_geti X fX10_196 (k_60 _ _) (by decide) (Or.inl rfl) dX10_readAny_207 ?_
            try simp (disch := decide) only [ot_rd, ot_rs, ot_rf, ot_ucd, ot_ucs]
            refine tt_iconst X dX10_readAny_210 ?_
            refine tt_isub X dX10_readAny_211 ?_
            refine tt_puti X fX10_196 kc_10 (k_60 _ _) (by decide) (fun q hq => by cases hq; rfl) rfl dX10_readAny_212 ?_
            refine tt_iload_n X rfl dX10_readAny_215 ?_
            refine tt_iconst X dX10_readAny_216 ?_
            refine tt_isub X dX10_readAny_217 ?_
            refine tt_istore_n X dX10_readAny_218 (by decide) ?_
            refine tt_aload_n X rfl dX10_readAny_219 ?_
            refine tt_aload_n X rfl dX10_readAny_220 ?_
            refine tt_geti X fX10_199 (k_60 _ _) (by decide) (Or.inl rfl) dX10_readAny_221 ?_
            try simp (disch := decide) only [ot_rd, ot_rs, ot_rf, ot_ucd, ot_ucs]
            refine tt_iconst X dX10_readAny_224 ?_
            refine tt_isub X dX10_readAny_225 ?_
            refine tt_puti X fX10_199 kc_10 (k_60 _ _) (by decide) (fun q hq => by cases hq; rfl) rfl dX10_readAny_226 ?_
            refine tt_gen (fun σ3 e3 => ?_)
            have hs229 := qT_popB (σ2 := σ3) (Q := Q) hs205 (by intro i a1 a2; rw [e3]; simp [ot_up, a1, a2]) (by rw [e3]; simp [ot_up]) (by rw [e3]; simp [ot_up]) (by intro k a1; rw [e3]; funext i; simp [ot_up, a1])
            refine tt_aload_n X rfl dX10_readAny_229 ?_
            refine tt_bipush X (by decide) dX10_readAny_230 ?_
            refine tt_vv X rfl mX10_211 (q_settles l g ln ext _ 9 (by omega) T n μ b f0 h0 (q1.1, (sAO P q1.2).2) Q hs229 (by show b + (sAO P q1.2).2.length + nbP Q ≤ 400; omega) (by have := okP_len hokQ hc8Q; omega) (okP_in _ (hokQ))) (k_60 _ _) ⟨_, rfl, rfl⟩ rfl rfl (Nat.le_of_ble_eq_true rfl) (by decide) (by decide) (by decide) dX10_readAny_232 (fun L232 μ232 hp => ?_)
            obtain ⟨rfl, hs232⟩ := hp
            refine tt_aload_n X rfl dX10_readAny_235 ?_
            refine tt_vv X rfl mX10_180 (q_reads l g ln ext _ (spT T n _) hs232.2.1.2.1 T n (qG_of hg hs232).1 gT2 gn (qG_of hg hs232).2.2.2.1 (spT_le (psN_le _)) (qG_of hg hs232).2.2.2.2) (k_60 _ _) ⟨_, rfl, rfl⟩ rfl rfl (Nat.le_of_ble_eq_true rfl) (by decide) (by decide) (by decide) dX10_readAny_236 (fun L236 μ236 hp => ?_)
            obtain ⟨rfl, sp236, tk236, vl236, e236, hsp236, ht236, hv236⟩ := hp
            have hs236 := qT_of hs232 (qS_reads hs232.2.1 (hlt1) e236 hsp236 ht236 hv236)
            have hB := anI_close hI ht4 hQ hs236
            have hM : n - psN T n (q1.1 + 1) < n - psN T n q1.1 := by have := psN_grow hlt1; omega
            have hL : ((cnB P : Nat) : Int) - 1 = ((cnB (stl 9 Q (sAO P q1.2).2).1 : Nat) : Int) := by rw [stl_cnB (by decide)]; omega
            refine tt_goto X 9 dX10_readAny_239 (by decide) ?_
            refine tt_loc [(0, _), (1, _), (2, _)] ⟨rfl, rfl, rfl, trivial⟩ ?_
            rw [hL]
            exact ih (_, _, _, _) hB hM
          · refine tt_aload_n X rfl dX10_readAny_199 ?_
            refine tt_iconst X dX10_readAny_200 ?_
            refine tt_vi X rfl mX10_173 (q_errs l g ln ext _ _) (k_60 _ _) ⟨_, rfl, rfl⟩ rfl rfl (Nat.le_of_ble_eq_true rfl) (by decide) (by decide) (by decide) dX10_readAny_201 (fun z201 L201 μ201 hp => ?_)
            obtain ⟨rfl, e201, hz201⟩ := hp
            have hs201 := qS_err hs181.2.1 e201
            refine tt_iret X ⟨hr.1, hr.2.1⟩ (by decide) (by decide) dX10_readAny_204 ?_
            refine ⟨rfl, .inl (1, q1.1), (hI.2.1 _).mpr (bR_done ?_), hz201, qF2_of hs181 hs201⟩
            unfold bst
            dsimp only
            rw [if_neg (by decide), if_neg n4, if_neg n3, if_neg hcb0, if_neg (by omega)]
        · refine tt_iconst X dX10_readAny_188 ?_
          refine tt_iret X ⟨hr.1, hr.2.1⟩ (by decide) (by decide) dX10_readAny_189 ?_
          have hcb0 : cnB (sAO P q1.2).1 = 0 := by have := hsa.2.2.2; omega
          have hnil : (sAO P q1.2).1 = [] := by
            have htp := sAO_top (cs := q1.2) hokP (hI.2.2.2.2.1 rfl)
            cases hP2 : (sAO P q1.2).1 with
            | nil => rfl
            | cons t Q =>
              rw [hP2] at hcb0
              have := htp t Q hP2
              replace hcb0 : cnB Q + (if t = 12 then 1 else 0) = 0 := hcb0
              rw [if_pos this] at hcb0
              omega
          have hs189 := hs181
          have hsn := hsa.2.1
          rw [hnil] at hs189 hsn
          refine ⟨rfl, .inr (q1.1, (sAO P q1.2).2), (hI.2.1 _).mpr (bR_done ?_), rfl, hs189, ?_, hI.2.2.2.2.2.2⟩
          · unfold bst
            dsimp only
            rw [if_neg (by decide), if_neg n4, if_neg n3, if_pos hcb0]
          · show b + (sAO P q1.2).2.length ≤ q1.1
            replace hsn : (sAO P q1.2).2.length + 0 = q1.2.length + nbP P := hsn
            omega
      · have ht4 : tkT T n q1.1 = 3 := by omega
        have hlt1 : psN T n q1.1 < n := tk_lt_n (by omega)
        refine tt_aload_n X rfl dX10_readAny_145 ?_
        refine tt_bipush X (by decide) dX10_readAny_146 ?_
        refine tt_vv X rfl mX10_211 (q_settles l g ln ext _ 10 (by omega) T n μ b f0 h0 q1 P hI.1 (by omega) (by have := okP_len hokP hc8; omega) (okP_in _ (hokP))) (k_60 _ _) ⟨_, rfl, rfl⟩ rfl rfl (Nat.le_of_ble_eq_true rfl) (by decide) (by decide) (by decide) dX10_readAny_148 (fun L148 μ148 hp => ?_)
        obtain ⟨rfl, hs148⟩ := hp
        refine tt_aload_n X rfl dX10_readAny_151 ?_
        refine tt_bipush X (by decide) dX10_readAny_152 ?_
        refine tt_vv X rfl mX10_211 (q_settles l g ln ext _ 11 (by omega) T n μ b f0 h0 (q1.1, (stl 10 P q1.2).2) (stl 10 P q1.2).1 hs148 (by show b + (stl 10 P q1.2).2.length + nbP (stl 10 P q1.2).1 ≤ 400; have := hok10.2.2; omega) (by have := okP_len hok10.1 hc10; omega) (okP_in _ (hok10.1))) (k_60 _ _) ⟨_, rfl, rfl⟩ rfl rfl (Nat.le_of_ble_eq_true rfl) (by decide) (by decide) (by decide) dX10_readAny_154 (fun L154 μ154 hp => ?_)
        obtain ⟨rfl, hs154⟩ := hp
        replace hs154 : qT T n μ b f0 h0 (q1.1, (sAO P q1.2).2) (sAO P q1.2).1 μ154 := hs154
        refine tt_aload_n X rfl dX10_readAny_157 ?_
        refine tt_bipush X (by decide) dX10_readAny_158 ?_
        refine tt_vv X rfl mX10_205 (q_waits l g ln ext _ _ (by rw [hs154.2.2.1]; have := okP_len hsa.1 (Nat.le_trans hsa.2.2.1 hc8); omega)) (k_60 _ _) ⟨_, rfl, rfl⟩ rfl rfl (Nat.le_of_ble_eq_true rfl) (by decide) (by decide) (by decide) dX10_readAny_160 (fun L160 μ160 hp => ?_)
        obtain ⟨rfl, e160⟩ := hp
        have hs160 := qT_wait (σ2 := μ160) (p := 11) hs154 (by intro i a1 a2; rw [e160]; simp [ot_up, a1, a2]) (by rw [e160]; show _ = ((cnO _ + (if (11 : Int) = 9 ∨ (11 : Int) = 12 then 1 else 0) : Nat) : Int); rw [if_neg (by decide)]; simp [ot_up, hs154.2.2.2.1]) (by rw [e160]; simp [ot_up]) (by intro k a1 a2; rw [e160]; funext i; simp [ot_up, a1, a2]) (by rw [e160]; funext i; simp [ot_up, up1])
        refine tt_aload_n X rfl dX10_readAny_163 ?_
        refine tt_vv X rfl mX10_180 (q_reads l g ln ext _ (spT T n _) hs160.2.1.2.1 T n (qG_of hg hs160).1 gT2 gn (qG_of hg hs160).2.2.2.1 (spT_le (psN_le _)) (qG_of hg hs160).2.2.2.2) (k_60 _ _) ⟨_, rfl, rfl⟩ rfl rfl (Nat.le_of_ble_eq_true rfl) (by decide) (by decide) (by decide) dX10_readAny_164 (fun L164 μ164 hp => ?_)
        obtain ⟨rfl, sp164, tk164, vl164, e164, hsp164, ht164, hv164⟩ := hp
        have hs164 := qT_of hs160 (qS_reads hs160.2.1 (hlt1) e164 hsp164 ht164 hv164)
        refine tt_iconst X dX10_readAny_167 ?_
        refine tt_istore_n X dX10_readAny_168 (by decide) ?_
        have hB := anI_or hI ht4 hs164
        have hM : n - psN T n (q1.1 + 1) < n - psN T n q1.1 := by have := psN_grow hlt1; omega
        have hL : ((cnB P : Nat) : Int) = ((cnB (11 :: (sAO P q1.2).1) : Nat) : Int) := by show _ = ((cnB (sAO P q1.2).1 + (if (11 : Int) = 12 then 1 else 0) : Nat) : Int); rw [if_neg (by decide), hsa.2.2.2]; rfl
        refine tt_goto X 9 dX10_readAny_169 (by decide) ?_
        refine tt_loc [(0, _), (1, _), (2, _)] ⟨rfl, rfl, rfl, trivial⟩ ?_
        rw [hL]
        exact ih (_, _, _, _) hB hM
    · have ht4 : tkT T n q1.1 = 4 := by omega
      have hlt1 : psN T n q1.1 < n := tk_lt_n (by omega)
      refine tt_aload_n X rfl dX10_readAny_116 ?_
      refine tt_bipush X (by decide) dX10_readAny_117 ?_
      refine tt_vv X rfl mX10_211 (q_settles l g ln ext _ 10 (by omega) T n μ b f0 h0 q1 P hI.1 (by omega) (by have := okP_len hokP hc8; omega) (okP_in _ (hokP))) (k_60 _ _) ⟨_, rfl, rfl⟩ rfl rfl (Nat.le_of_ble_eq_true rfl) (by decide) (by decide) (by decide) dX10_readAny_119 (fun L119 μ119 hp => ?_)
      obtain ⟨rfl, hs119⟩ := hp
      refine tt_aload_n X rfl dX10_readAny_122 ?_
      refine tt_bipush X (by decide) dX10_readAny_123 ?_
      refine tt_vv X rfl mX10_205 (q_waits l g ln ext _ _ (by rw [hs119.2.2.1]; have := okP_len hok10.1 hc10; omega)) (k_60 _ _) ⟨_, rfl, rfl⟩ rfl rfl (Nat.le_of_ble_eq_true rfl) (by decide) (by decide) (by decide) dX10_readAny_125 (fun L125 μ125 hp => ?_)
      obtain ⟨rfl, e125⟩ := hp
      have hs125 := qT_wait (σ2 := μ125) (p := 10) hs119 (by intro i a1 a2; rw [e125]; simp [ot_up, a1, a2]) (by rw [e125]; show _ = ((cnO _ + (if (10 : Int) = 9 ∨ (10 : Int) = 12 then 1 else 0) : Nat) : Int); rw [if_neg (by decide)]; simp [ot_up, hs119.2.2.2.1]) (by rw [e125]; simp [ot_up]) (by intro k a1 a2; rw [e125]; funext i; simp [ot_up, a1, a2]) (by rw [e125]; funext i; simp [ot_up, up1])
      refine tt_aload_n X rfl dX10_readAny_128 ?_
      refine tt_vv X rfl mX10_180 (q_reads l g ln ext _ (spT T n _) hs125.2.1.2.1 T n (qG_of hg hs125).1 gT2 gn (qG_of hg hs125).2.2.2.1 (spT_le (psN_le _)) (qG_of hg hs125).2.2.2.2) (k_60 _ _) ⟨_, rfl, rfl⟩ rfl rfl (Nat.le_of_ble_eq_true rfl) (by decide) (by decide) (by decide) dX10_readAny_129 (fun L129 μ129 hp => ?_)
      obtain ⟨rfl, sp129, tk129, vl129, e129, hsp129, ht129, hv129⟩ := hp
      have hs129 := qT_of hs125 (qS_reads hs125.2.1 (hlt1) e129 hsp129 ht129 hv129)
      refine tt_iconst X dX10_readAny_132 ?_
      refine tt_istore_n X dX10_readAny_133 (by decide) ?_
      have hB := anI_and hI ht4 hs129
      have hM : n - psN T n (q1.1 + 1) < n - psN T n q1.1 := by have := psN_grow hlt1; omega
      have hL : ((cnB P : Nat) : Int) = ((cnB (10 :: (stl 10 P q1.2).1) : Nat) : Int) := by show _ = ((cnB (stl 10 P q1.2).1 + (if (10 : Int) = 12 then 1 else 0) : Nat) : Int); rw [if_neg (by decide), stl_cnB (by decide)]; rfl
      refine tt_goto X 9 dX10_readAny_134 (by decide) ?_
      refine tt_loc [(0, _), (1, _), (2, _)] ⟨rfl, rfl, rfl, trivial⟩ ?_
      rw [hL]
      exact ih (_, _, _, _) hB hM
  · have hdue : due = true := by
      cases due
      · exact absurd rfl b10
      · rfl
    subst hdue
    refine tt_aload_n X rfl dX10_readAny_13 ?_
    refine tt_iconst X dX10_readAny_14 ?_
    refine tt_vi X rfl mX10_202 (q_isWord l g ln ext _ 5 (by omega) (by have := tqR_20 hI.1.2.1.2.2.2.1; omega) (by have := hI.1.2.1.2.2.2.2.1; omega)) (k_60 _ _) ⟨_, rfl, rfl⟩ rfl rfl (Nat.le_of_ble_eq_true rfl) (by decide) (by decide) (by decide) dX10_readAny_15 (fun z15 L15 μ15 hp => ?_)
    obtain ⟨rfl, e15, hz15⟩ := hp
    replace e15 := e15.symm
    subst e15
    have hw15 : (z15 = 1 ∧ tkT T n q1.1 = 5) ∨ (z15 = 0 ∧ tkT T n q1.1 ≠ 5) := by
      rw [hz15]
      by_cases w : σ 60 20 = 2 ∧ σ 60 21 = 5
      · rw [if_pos w]; exact Or.inl ⟨rfl, k5.mp w⟩
      · rw [if_neg w]; exact Or.inr ⟨rfl, fun h => w (k5.mpr h)⟩
    clear hz15
    try simp (disch := decide) only [ot_rd, ot_rs, ot_rf, ot_ucd, ot_ucs] at hz15
    refine tt_istore_n X dX10_readAny_18 (by decide) ?_
    refine tt_iload_n X rfl dX10_readAny_19 ?_
    refine tt_if_ne X 32 (by first | omega | (simp (disch := decide) only [ot_rd, ot_rs, ot_rf, ot_ucd, ot_ucs]; omega)) dX10_readAny_20 (by decide) (fun b20 => ?_) (fun b20 => ?_)
    · have ht54 : tkT T n q1.1 = 5 ∨ tkT T n q1.1 = 40 := by omega
      have hlt1 : psN T n q1.1 < n := tk_lt_n (by omega)
      refine tt_aload_n X rfl dX10_readAny_32 ?_
      refine tt_geti X fX10_199 (k_60 _ _) (by decide) (Or.inl rfl) dX10_readAny_33 ?_
      try simp (disch := decide) only [ot_rd, ot_rs, ot_rf, ot_ucd, ot_ucs]
      refine tt_bipush X (by decide) dX10_readAny_36 ?_
      refine tt_icmp_ne X 47 (by first | omega | (simp (disch := decide) only [ot_rd, ot_rs, ot_rf, ot_ucd, ot_ucs]; omega)) dX10_readAny_38 (by decide) (fun b38 => ?_) (fun b38 => ?_)
      · refine tt_aload_n X rfl dX10_readAny_47 ?_
        refine tt_aload_n X rfl dX10_readAny_48 ?_
        refine tt_geti X fX10_199 (k_60 _ _) (by decide) (Or.inl rfl) dX10_readAny_49 ?_
        try simp (disch := decide) only [ot_rd, ot_rs, ot_rf, ot_ucd, ot_ucs]
        refine tt_iconst X dX10_readAny_52 ?_
        refine tt_iadd X dX10_readAny_53 ?_
        refine tt_puti X fX10_199 kc_10 (k_60 _ _) (by decide) (fun q hq => by cases hq; rfl) rfl dX10_readAny_54 ?_
        refine tt_gen (fun σ3 e3 => ?_)
        obtain ⟨pv, hpv⟩ : ∃ pv : Int, (z15 = 1 ∧ tkT T n q1.1 = 5 ∧ pv = 9) ∨ (z15 = 0 ∧ tkT T n q1.1 = 40 ∧ pv = 12) := by
          by_cases w : z15 = 0
          · exact ⟨12, Or.inr ⟨w, by omega, rfl⟩⟩
          · exact ⟨9, Or.inl ⟨by omega, by omega, rfl⟩⟩
        refine tt_iload_n X rfl dX10_readAny_57 ?_
        refine tt_if_ne X 65 (by first | omega | (simp (disch := decide) only [ot_rd, ot_rs, ot_rf, ot_ucd, ot_ucs]; omega)) dX10_readAny_58 (by decide) (fun b58 => ?_) (fun b58 => ?_)
        · refine tt_aload_n X rfl dX10_readAny_65 ?_
          refine tt_iload_n X rfl dX10_readAny_66 ?_
          refine tt_if_eq X 75 (by first | omega | (simp (disch := decide) only [ot_rd, ot_rs, ot_rf, ot_ucd, ot_ucs]; omega)) dX10_readAny_67 (by decide) (fun b67 => ?_) (fun b67 => ?_)
          · exact absurd b67 (by omega)
          · refine tt_bipush X (by decide) dX10_readAny_70 ?_
            refine tt_goto X 77 dX10_readAny_72 (by decide) ?_
            refine tt_top (y := pv) (by omega) ?_
            refine tt_vv X rfl mX10_205 (q_waits l g ln ext _ _ (by rw [e3]; simp [ot_up]; omega)) (k_60 _ _) ⟨_, rfl, rfl⟩ rfl rfl (Nat.le_of_ble_eq_true rfl) (by decide) (by decide) (by decide) dX10_readAny_77 (fun L77 μ77 hp => ?_)
            obtain ⟨rfl, e77⟩ := hp
            rw [e3] at e77
            have hs77 := qT_wait (σ2 := μ77) (p := pv) hI.1 (by intro i a1 a2; rw [e77]; simp [ot_up, a1, a2]) (by rw [e77]; show _ = ((cnO P + (if (pv : Int) = 9 ∨ (pv : Int) = 12 then 1 else 0) : Nat) : Int); rw [if_pos (by omega)]; simp [ot_up]; omega) (by rw [e77]; simp [ot_up]) (by intro k a1 a2; rw [e77]; funext i; simp [ot_up, a1, a2]) (by rw [e77]; funext i; simp [ot_up, up1])
            refine tt_aload_n X rfl dX10_readAny_80 ?_
            refine tt_vv X rfl mX10_180 (q_reads l g ln ext _ (spT T n _) hs77.2.1.2.1 T n (qG_of hg hs77).1 gT2 gn (qG_of hg hs77).2.2.2.1 (spT_le (psN_le _)) (qG_of hg hs77).2.2.2.2) (k_60 _ _) ⟨_, rfl, rfl⟩ rfl rfl (Nat.le_of_ble_eq_true rfl) (by decide) (by decide) (by decide) dX10_readAny_81 (fun L81 μ81 hp => ?_)
            obtain ⟨rfl, sp81, tk81, vl81, e81, hsp81, ht81, hv81⟩ := hp
            have hs81 := qT_of hs77 (qS_reads hs77.2.1 (hlt1) e81 hsp81 ht81 hv81)
            have hB := anI_push hI (p := pv) (by omega) (by omega) hs81
            have hM : n - psN T n (q1.1 + 1) < n - psN T n q1.1 := by have := psN_grow hlt1; omega
            first
              | (have hL : ((cnB P : Nat) : Int) = ((cnB (pv :: P) : Nat) : Int) := by show _ = ((cnB P + (if pv = 12 then 1 else 0) : Nat) : Int); rw [if_neg (by omega)]; omega)
              | (have hL : ((cnB P : Nat) : Int) + 1 = ((cnB (pv :: P) : Nat) : Int) := by show _ = ((cnB P + (if pv = 12 then 1 else 0) : Nat) : Int); rw [if_pos (by omega)]; omega)
            refine tt_goto X 9 dX10_readAny_84 (by decide) ?_
            refine tt_loc [(0, _), (1, _), (2, _)] ⟨rfl, rfl, rfl, trivial⟩ ?_
            rw [hL]
            exact ih (_, _, _, _) hB hM
        · exact absurd b58 (by omega)
      · refine tt_aload_n X rfl dX10_readAny_41 ?_
        refine tt_iconst X dX10_readAny_42 ?_
        refine tt_vi X rfl mX10_173 (q_errs l g ln ext _ _) (k_60 _ _) ⟨_, rfl, rfl⟩ rfl rfl (Nat.le_of_ble_eq_true rfl) (by decide) (by decide) (by decide) dX10_readAny_43 (fun z43 L43 μ43 hp => ?_)
        obtain ⟨rfl, e43, hz43⟩ := hp
        have hs43 := qS_err hI.1.2.1 e43
        refine tt_iret X ⟨hr.1, hr.2.1⟩ (by decide) (by decide) dX10_readAny_46 ?_
        refine ⟨rfl, .inl (3, q1.1), (hI.2.1 _).mpr (bR_done ?_), hz43, qF2_of hI.1 hs43⟩
        unfold bst
        dsimp only
        rw [if_pos rfl, if_pos ht54, if_pos (by omega)]
    · refine tt_aload_n X rfl dX10_readAny_23 ?_
      refine tt_bipush X (by decide) dX10_readAny_24 ?_
      refine tt_vi X rfl mX10_187 (q_isSign l g ln ext _ 40 (by omega) (by have := tqR_20 hI.1.2.1.2.2.2.1; omega) (by have := hI.1.2.1.2.2.2.2.1; omega)) (k_60 _ _) ⟨_, rfl, rfl⟩ rfl rfl (Nat.le_of_ble_eq_true rfl) (by decide) (by decide) (by decide) dX10_readAny_26 (fun z26 L26 μ26 hp => ?_)
      obtain ⟨rfl, e26, hz26⟩ := hp
      replace e26 := e26.symm
      subst e26
      have hw26 : (z26 = 1 ∧ tkT T n q1.1 = 40) ∨ (z26 = 0 ∧ tkT T n q1.1 ≠ 40) := by
        rw [hz26]
        by_cases w : σ 60 20 = 4 ∧ σ 60 21 = 40
        · rw [if_pos w]; exact Or.inl ⟨rfl, k40.mp w⟩
        · rw [if_neg w]; exact Or.inr ⟨rfl, fun h => w (k40.mpr h)⟩
      clear hz26
      try simp (disch := decide) only [ot_rd, ot_rs, ot_rf, ot_ucd, ot_ucs] at hz26
      refine tt_if_eq X 87 (by first | omega | (simp (disch := decide) only [ot_rd, ot_rs, ot_rf, ot_ucd, ot_ucs]; omega)) dX10_readAny_29 (by decide) (fun b29 => ?_) (fun b29 => ?_)
      · have n5 : tkT T n q1.1 ≠ 5 := by omega
        have n40 : tkT T n q1.1 ≠ 40 := by omega
        refine tt_aload_n X rfl dX10_readAny_87 ?_
        refine tt_vi X rfl mX10_208 (q_readCompared l g ln ext _ T n σ b f0 h0 (qG_of hg hI.1) q1 hI.1.2.1 (by omega)) (k_60 _ _) ⟨_, rfl, rfl⟩ rfl rfl (Nat.le_of_ble_eq_true rfl) (by decide) (by decide) (by decide) dX10_readAny_88 (fun z88 L88 μ88 hp => ?_)
        obtain ⟨rfl, o88, ho88, hq88, hc88⟩ := hp
        have hz88 := qR_z hq88
        refine tt_iconst X dX10_readAny_91 ?_
        refine tt_icmp_ne X 97 (by first | omega | (simp (disch := decide) only [ot_rd, ot_rs, ot_rf, ot_ucd, ot_ucs]; omega)) dX10_readAny_92 (by decide) (fun b92 => ?_) (fun b92 => ?_)
        · obtain ⟨u, rfl, hs88⟩ := qR_yes hq88 (by omega)
          have hcu := hc88 u rfl
          have hT88 := qT_of hI.1 hs88
          have hdu := tk_lt_n (cmR_last ho88)
          have hiu := psN_idx hdu
          refine tt_aload_n X rfl dX10_readAny_97 ?_
          refine tt_bipush X (by decide) dX10_readAny_98 ?_
          refine tt_vv X rfl mX10_211 (q_settles l g ln ext _ 9 (by omega) T n μ b f0 h0 u P hT88 (by omega) (by have := okP_len hokP hc8; omega) (okP_in _ (hokP))) (k_60 _ _) ⟨_, rfl, rfl⟩ rfl rfl (Nat.le_of_ble_eq_true rfl) (by decide) (by decide) (by decide) dX10_readAny_100 (fun L100 μ100 hp => ?_)
          obtain ⟨rfl, hs100⟩ := hp
          refine tt_iconst X dX10_readAny_103 ?_
          refine tt_istore_n X dX10_readAny_104 (by decide) ?_
          have hB := anI_cmp hI n5 n40 ho88 hcu.1 hs100
          have hM : n - psN T n u.1 < n - psN T n q1.1 := by
            have h1 := psN_mono (T := T) (n := n) (i := q1.1) (u.1 - 1 - q1.1)
            rw [show q1.1 + (u.1 - 1 - q1.1) = u.1 - 1 by omega] at h1
            have h2 := psN_lt2 (T := T) (n := n) (i := q1.1) (j := u.1) (by omega) hcu.2
            omega
          have hL : ((cnB P : Nat) : Int) = ((cnB (stl 9 P u.2).1 : Nat) : Int) := by rw [stl_cnB (by decide)]
          refine tt_goto X 9 dX10_readAny_105 (by decide) ?_
          refine tt_loc [(0, _), (1, _), (2, _)] ⟨rfl, rfl, rfl, trivial⟩ ?_
          rw [hL]
          exact ih (_, _, _, _) hB hM
        · refine tt_iconst X dX10_readAny_95 ?_
          refine tt_iret X ⟨hr.1, hr.2.1⟩ (by decide) (by decide) dX10_readAny_96 ?_
          refine ⟨rfl, ?_⟩
          obtain ⟨f, rfl, hqf⟩ := qR_no hq88 (by omega)
          refine ⟨.inl f, (hI.2.1 _).mpr (bR_done ?_), rfl, qF2_of hI.1 hqf⟩
          unfold bst
          dsimp only
          rw [if_pos rfl, if_neg (by omega)]
          exact ⟨.inl f, ho88, rfl⟩
      · have ht54 : tkT T n q1.1 = 5 ∨ tkT T n q1.1 = 40 := by omega
        have hlt1 : psN T n q1.1 < n := tk_lt_n (by omega)
        refine tt_aload_n X rfl dX10_readAny_32 ?_
        refine tt_geti X fX10_199 (k_60 _ _) (by decide) (Or.inl rfl) dX10_readAny_33 ?_
        try simp (disch := decide) only [ot_rd, ot_rs, ot_rf, ot_ucd, ot_ucs]
        refine tt_bipush X (by decide) dX10_readAny_36 ?_
        refine tt_icmp_ne X 47 (by first | omega | (simp (disch := decide) only [ot_rd, ot_rs, ot_rf, ot_ucd, ot_ucs]; omega)) dX10_readAny_38 (by decide) (fun b38 => ?_) (fun b38 => ?_)
        · refine tt_aload_n X rfl dX10_readAny_47 ?_
          refine tt_aload_n X rfl dX10_readAny_48 ?_
          refine tt_geti X fX10_199 (k_60 _ _) (by decide) (Or.inl rfl) dX10_readAny_49 ?_
          try simp (disch := decide) only [ot_rd, ot_rs, ot_rf, ot_ucd, ot_ucs]
          refine tt_iconst X dX10_readAny_52 ?_
          refine tt_iadd X dX10_readAny_53 ?_
          refine tt_puti X fX10_199 kc_10 (k_60 _ _) (by decide) (fun q hq => by cases hq; rfl) rfl dX10_readAny_54 ?_
          refine tt_gen (fun σ3 e3 => ?_)
          obtain ⟨pv, hpv⟩ : ∃ pv : Int, (z15 = 1 ∧ tkT T n q1.1 = 5 ∧ pv = 9) ∨ (z15 = 0 ∧ tkT T n q1.1 = 40 ∧ pv = 12) := by
            by_cases w : z15 = 0
            · exact ⟨12, Or.inr ⟨w, by omega, rfl⟩⟩
            · exact ⟨9, Or.inl ⟨by omega, by omega, rfl⟩⟩
          refine tt_iload_n X rfl dX10_readAny_57 ?_
          refine tt_if_ne X 65 (by first | omega | (simp (disch := decide) only [ot_rd, ot_rs, ot_rf, ot_ucd, ot_ucs]; omega)) dX10_readAny_58 (by decide) (fun b58 => ?_) (fun b58 => ?_)
          · exact absurd b58 (by omega)
          · refine tt_iload_n X rfl dX10_readAny_61 ?_
            refine tt_iconst X dX10_readAny_62 ?_
            refine tt_iadd X dX10_readAny_63 ?_
            refine tt_istore_n X dX10_readAny_64 (by decide) ?_
            refine tt_aload_n X rfl dX10_readAny_65 ?_
            refine tt_iload_n X rfl dX10_readAny_66 ?_
            refine tt_if_eq X 75 (by first | omega | (simp (disch := decide) only [ot_rd, ot_rs, ot_rf, ot_ucd, ot_ucs]; omega)) dX10_readAny_67 (by decide) (fun b67 => ?_) (fun b67 => ?_)
            · refine tt_bipush X (by decide) dX10_readAny_75 ?_
              refine tt_top (y := pv) (by omega) ?_
              refine tt_vv X rfl mX10_205 (q_waits l g ln ext _ _ (by rw [e3]; simp [ot_up]; omega)) (k_60 _ _) ⟨_, rfl, rfl⟩ rfl rfl (Nat.le_of_ble_eq_true rfl) (by decide) (by decide) (by decide) dX10_readAny_77 (fun L77 μ77 hp => ?_)
              obtain ⟨rfl, e77⟩ := hp
              rw [e3] at e77
              have hs77 := qT_wait (σ2 := μ77) (p := pv) hI.1 (by intro i a1 a2; rw [e77]; simp [ot_up, a1, a2]) (by rw [e77]; show _ = ((cnO P + (if (pv : Int) = 9 ∨ (pv : Int) = 12 then 1 else 0) : Nat) : Int); rw [if_pos (by omega)]; simp [ot_up]; omega) (by rw [e77]; simp [ot_up]) (by intro k a1 a2; rw [e77]; funext i; simp [ot_up, a1, a2]) (by rw [e77]; funext i; simp [ot_up, up1])
              refine tt_aload_n X rfl dX10_readAny_80 ?_
              refine tt_vv X rfl mX10_180 (q_reads l g ln ext _ (spT T n _) hs77.2.1.2.1 T n (qG_of hg hs77).1 gT2 gn (qG_of hg hs77).2.2.2.1 (spT_le (psN_le _)) (qG_of hg hs77).2.2.2.2) (k_60 _ _) ⟨_, rfl, rfl⟩ rfl rfl (Nat.le_of_ble_eq_true rfl) (by decide) (by decide) (by decide) dX10_readAny_81 (fun L81 μ81 hp => ?_)
              obtain ⟨rfl, sp81, tk81, vl81, e81, hsp81, ht81, hv81⟩ := hp
              have hs81 := qT_of hs77 (qS_reads hs77.2.1 (hlt1) e81 hsp81 ht81 hv81)
              have hB := anI_push hI (p := pv) (by omega) (by omega) hs81
              have hM : n - psN T n (q1.1 + 1) < n - psN T n q1.1 := by have := psN_grow hlt1; omega
              first
                | (have hL : ((cnB P : Nat) : Int) = ((cnB (pv :: P) : Nat) : Int) := by show _ = ((cnB P + (if pv = 12 then 1 else 0) : Nat) : Int); rw [if_neg (by omega)]; omega)
                | (have hL : ((cnB P : Nat) : Int) + 1 = ((cnB (pv :: P) : Nat) : Int) := by show _ = ((cnB P + (if pv = 12 then 1 else 0) : Nat) : Int); rw [if_pos (by omega)]; omega)
              refine tt_goto X 9 dX10_readAny_84 (by decide) ?_
              refine tt_loc [(0, _), (1, _), (2, _)] ⟨rfl, rfl, rfl, trivial⟩ ?_
              rw [hL]
              exact ih (_, _, _, _) hB hM
            · exact absurd b67 (by omega)
        · refine tt_aload_n X rfl dX10_readAny_41 ?_
          refine tt_iconst X dX10_readAny_42 ?_
          refine tt_vi X rfl mX10_173 (q_errs l g ln ext _ _) (k_60 _ _) ⟨_, rfl, rfl⟩ rfl rfl (Nat.le_of_ble_eq_true rfl) (by decide) (by decide) (by decide) dX10_readAny_43 (fun z43 L43 μ43 hp => ?_)
          obtain ⟨rfl, e43, hz43⟩ := hp
          have hs43 := qS_err hI.1.2.1 e43
          refine tt_iret X ⟨hr.1, hr.2.1⟩ (by decide) (by decide) dX10_readAny_46 ?_
          refine ⟨rfl, .inl (3, q1.1), (hI.2.1 _).mpr (bR_done ?_), hz43, qF2_of hI.1 hs43⟩
          unfold bst
          dsimp only
          rw [if_pos rfl, if_pos ht54, if_pos (by omega)]

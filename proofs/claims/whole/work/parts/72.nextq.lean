section OT
variable {p : Program} {l : Launch} {e : Env} {R : Room} {s : State} {m : MethodId} {args : Array Value} {below : List Frame} {meth : Method} {c : Code} {g : ot_G} {nL cells slots : Nat} {Q : State → Prop} {cc : ByteArray} {own : String} {L : ot_L} {μ : ot_M} {pc : Nat} {lv : List (Nat × ot_V)} {st : List ot_V}
theorem tt_ldcw (X : ot_X p s m args c g cc nL own) {i : Nat} {n : Int} (hc : Cond.constant own i (Int32.ofInt n) ∈ ot_ws) (hd : decode cc pc = .ok (.ldc_w i, 3))
    (k : ot_T p l e R s m args below meth c g nL cells slots Q L μ (pc + 3) lv (.inl n :: st)) : ot_T p l e R s m args below meth c g nL cells slots Q L μ pc lv st := by
  intro H locs ls hP hS hl
  exact lv_ldcw X.1 X.2.1 X.2.2.2.1 (X.2.2.2.2.1 _ hc) hd (k H locs ls hP hS hl)
end OT
theorem gLaw_can {op arg lw lf lt px py cnt row sh : Int → Int} {m t q z : Int} (hc : 1 ≤ cnt t) (hz : z = if cnt t < 120 ∧ (cnt t = 0 ∨ row (120 * t + (cnt t - 1)) ≠ q) then 1 else 0) (h1 : z ≠ 0) : mayS op arg lw lf lt m px py cnt row sh t q = lawS op arg (fcV px py cnt row sh t q) lw lf lt m.toNat m.toNat := by
  unfold mayS
  split at hz
  · rename_i w; rw [if_pos w, if_neg (by omega)]
  · omega
theorem gLaw_cant {op arg lw lf lt px py cnt row sh : Int → Int} {m t q z : Int} (hz : z = if cnt t < 120 ∧ (cnt t = 0 ∨ row (120 * t + (cnt t - 1)) ≠ q) then 1 else 0) (h1 : z = 0) : mayS op arg lw lf lt m px py cnt row sh t q = 0 := by
  unfold mayS
  split at hz
  · omega
  · rename_i w; rw [if_neg w]
theorem can_one {cnt row : Int → Int} {t q z : Int} (hz : z = if cnt t < 120 ∧ (cnt t = 0 ∨ row (120 * t + (cnt t - 1)) ≠ q) then 1 else 0) (h1 : z ≠ 0) : cnt t < 120 ∧ (cnt t = 0 ∨ row (120 * t + (cnt t - 1)) ≠ q) := by
  split at hz
  · assumption
  · omega
set_option maxRecDepth 100000 in
set_option maxHeartbeats 1000000 in
theorem q_nextOf (l : Launch) (g : ot_G) (ln : Nat) (ext : ot_L) (μ : ot_M) (t pp F0 : Int) (D0 : Int → Int) (hD0 : D0 = dk (μ 60 1) (μ 61) (μ 62) (μ 64) (μ 65) (μ 63)) (hF0 : F0 = farS (fun k => μ 67 k + 1) (μ 66) D0 pp) (hG : gPin (μ 60 1) (μ 60 2) (μ 61) (μ 62)) (hW : gWnd (μ 60 2) (μ 64) (μ 65)) (hL : gLawQ (μ 60 23) (μ 77) (μ 78) (μ 74) (μ 75) (μ 76)) (hs : gShd (μ 63)) (hw0 : ∀ k, 0 ≤ k → k < 64 → 0 ≤ μ 67 k + 1 ∧ μ 67 k + 1 ≤ 9) (hWn : gWnt (μ 60 1) (μ 66)) (ht : 0 ≤ t ∧ t < 3) (hp4 : 0 ≤ pp ∧ pp < 4) (hD : ∀ k, 0 ≤ k → k < 64 → μ 83 k = D0 k) : ot_C l g yX10_nextOf cX10_nextOf 7 (some .int) 4 0 0 [.inr 60, .inl t, .inl pp] (LL ln ext) μ (ot_pi (fun r L2 μ2 => L2 = LL ln ext ∧ eqx [82, 83, 80, 81, 60] μ μ2 ∧ (∀ k, 0 ≤ k → k < 64 → μ2 83 k = D0 k) ∧ (-1 ≤ r ∧ r < μ 60 2) ∧ ∃ b, (r, b) = nextS (μ 77) (μ 78) (μ 74) (μ 75) (μ 76) (μ 60 23) (μ 60 1) (μ 60 2) (μ 61) (μ 62) (μ 63) (fun k => μ 67 k + 1) (μ 66) pp t (μ 64) (μ 65) ∧ (-41472 ≤ b ∧ b ≤ 41472) ∧ μ2 60 = up1 (μ 60) 41 (if r = -1 then 1000000000 else F0 - b))) := by
  refine ot_enter (by decide) (Nat.le_of_ble_eq_true rfl) ?_
  intro p e s m args below meth c X hr
  have hNn := hG.2.1
  have hS := hG.1
  have hWt := hW t ht.1 ht.2
  have hst := hs t ht.1 ht.2
  have hD1 : ∀ k, 0 ≤ D0 k ∧ D0 k ≤ 25704 := fun k => by rw [hD0]; exact dk_bd hG hW hs k
  have hD2 : ∀ k, ¬ (k % 8 < μ 60 1 ∧ k / 8 < μ 60 1) → D0 k = 0 := fun k hk => by rw [hD0]; exact dk_out hG hW hk
  have hFb : 0 ≤ F0 ∧ F0 ≤ 17856000 := by rw [hF0]; exact farS_bd hw0 (fun k k1 k2 => (hWn pp k (by omega) (by omega) k1 k2).1) (fun k _ _ => by have := hD1 k; omega)
  obtain ⟨may, hmay⟩ : ∃ may, may = fun q => mayS (μ 77) (μ 78) (μ 74) (μ 75) (μ 76) (μ 60 23) (μ 61) (μ 62) (μ 64) (μ 65) (μ 63) t q := ⟨_, rfl⟩
  have hmq : ∀ q, may q = mayS (μ 77) (μ 78) (μ 74) (μ 75) (μ 76) (μ 60 23) (μ 61) (μ 62) (μ 64) (μ 65) (μ 63) t q := fun q => by rw [hmay]
  obtain ⟨gain, hgain⟩ : ∃ gain, gain = gnS (μ 60 1) (μ 61) (μ 62) (μ 63) (fun k => μ 67 k + 1) (μ 66) pp t (μ 64) (μ 65) := ⟨_, rfl⟩
  have hgq : ∀ q, gain q = gnS (μ 60 1) (μ 61) (μ 62) (μ 63) (fun k => μ 67 k + 1) (μ 66) pp t (μ 64) (μ 65) q := fun q => by rw [hgain]
  refine tt_iconst X dX10_nextOf_0 ?_
  refine tt_istore_n X dX10_nextOf_1 (by decide) ?_
  refine tt_aload_n X rfl dX10_nextOf_2 ?_
  refine tt_ldcw X (n := 1000000000) (ot_mem 1378 (by decide +kernel) (by decide +kernel)) dX10_nextOf_3 ?_
  refine tt_puti X fX10_271 kc_10 (k_60 _ _) (by decide) (fun q hq => by cases hq; rfl) rfl dX10_nextOf_6 ?_
  refine tt_aload_n X rfl dX10_nextOf_9 ?_
  refine tt_getr X fX10_23 (k_60 _ _) (by decide) ⟨nofun, nofun⟩ rfl dX10_nextOf_10 ?_
  refine tt_iload_n X rfl dX10_nextOf_13 ?_
  refine tt_iaload X (k_64 _ _) (by first | omega | (simp (disch := decide) only [ot_rd, ot_rs, ot_rf, ot_ucd, ot_ucs]; omega)) dX10_nextOf_14 ?_
  try simp (disch := decide) only [ot_rd, ot_rs, ot_rf, ot_ucd, ot_ucs]
  refine tt_if_ne X 20 (by first | omega | (simp (disch := decide) only [ot_rd, ot_rs, ot_rf, ot_ucd, ot_ucs]; omega)) dX10_nextOf_15 (by decide) (fun b15 => ?_) (fun b15 => ?_)
  · have hc1 : 1 ≤ μ 64 t := by omega
    have hlp := hWt.2.1 (μ 64 t - 1) (by omega) (by omega)
    refine tt_aload_n X rfl dX10_nextOf_20 ?_
    refine tt_iload_n X rfl dX10_nextOf_21 ?_
    refine tt_aload_n X rfl dX10_nextOf_22 ?_
    refine tt_getr X fX10_23 (k_60 _ _) (by decide) ⟨nofun, nofun⟩ rfl dX10_nextOf_23 ?_
    refine tt_iload_n X rfl dX10_nextOf_26 ?_
    refine tt_iaload X (k_64 _ _) (by first | omega | (simp (disch := decide) only [ot_rd, ot_rs, ot_rf, ot_ucd, ot_ucs]; omega)) dX10_nextOf_27 ?_
    try simp (disch := decide) only [ot_rd, ot_rs, ot_rf, ot_ucd, ot_ucs]
    refine tt_iconst X dX10_nextOf_28 ?_
    refine tt_isub X dX10_nextOf_29 ?_
    refine tt_vi X rfl mX10_239 (q_woundAt l g ln ext _ _ _ (by omega) (by omega)) (k_60 _ _) ⟨_, rfl, rfl⟩ rfl rfl (Nat.le_of_ble_eq_true rfl) (by decide) (by decide) (by decide) dX10_nextOf_30 (fun z30 L30 μ30 hp => ?_)
    obtain ⟨rfl, e30, hz30⟩ := hp
    replace e30 := e30.symm
    subst e30
    simp (disch := decide) only [ot_rd, ot_rs, ot_rf, ot_ucd, ot_ucs, ot_rdf] at hz30
    refine tt_istore X dX10_nextOf_33 (by decide) ?_
    have hz30e : z30 = μ 65 (120 * t + (μ 64 t - 1)) := hz30
    refine tt_iconst X dX10_nextOf_35 ?_
    refine tt_istore X dX10_nextOf_36 (by decide) ?_
    refine tt_loc [(0, _), (1, _), (2, _), (3, _), (4, _), (5, _)] ⟨rfl, rfl, rfl, rfl, rfl, rfl, trivial⟩ ?_
    refine tt_loop (α := ot_M × Int × Int × Int) (fun ((σ, i, a, b)) => (μ 60 2 - i).toNat) (fun ((σ, i, a, b)) => (0 ≤ i ∧ i ≤ μ 60 2) ∧ eqx [82, 83, 80, 81, 60] μ σ ∧ σ 60 = up1 (μ 60) 41 (if a = -1 then 1000000000 else F0 - b) ∧ (∀ k, 0 ≤ k → k < 64 → σ 83 k = D0 k) ∧ (a, b) = nxS may gain i.toNat ∧ (-1 ≤ a ∧ a < i) ∧ (-41472 ≤ b ∧ b ≤ 41472)) (fun ((σ, i, a, b)) => σ) (fun ((σ, i, a, b)) => [(0, .inr 60), (1, .inl t), (2, .inl pp), (3, .inl a), (4, .inl z30), (5, .inl i)]) (ot_up μ 60 41 1000000000, 0, -1, 0) ⟨by show 0 ≤ (0 : Int) ∧ (0 : Int) ≤ μ 60 2; omega, eqx_up (eqx_rfl _ _) (by decide), by show ot_up μ 60 41 1000000000 60 = up1 (μ 60) 41 (if (-1 : Int) = -1 then 1000000000 else F0 - 0); rw [if_pos rfl, ot_up_uc, ot_ucs], fun k k1 k2 => by simp (disch := decide) only [ot_rd, ot_rs, ot_rf, ot_ucd, ot_ucs, ot_rdf]; exact hD k k1 k2, rfl, by show (-1 : Int) ≤ -1 ∧ (-1 : Int) < 0; omega, by show (-41472 : Int) ≤ 0 ∧ (0 : Int) ≤ 41472; omega⟩ ?_
    intro a hI ih
    obtain ⟨σ, i, a, b⟩ := a
    try dsimp only at hI ih ⊢
    replace hI : (0 ≤ i ∧ i ≤ μ 60 2) ∧ eqx [82, 83, 80, 81, 60] μ σ ∧ σ 60 = up1 (μ 60) 41 (if a = -1 then 1000000000 else F0 - b) ∧ (∀ k, 0 ≤ k → k < 64 → σ 83 k = D0 k) ∧ (a, b) = nxS may gain i.toNat ∧ (-1 ≤ a ∧ a < i) ∧ (-41472 ≤ b ∧ b ≤ 41472) := hI
    have hi := hI.1
    have he : ∀ k, k ∉ [82, 83, 80, 81, 60] → σ k = μ k := hI.2.1
    have he60 : ∀ j, j ≠ 41 → σ 60 j = μ 60 j := fun j hj => by rw [hI.2.2.1, up1_n hj]
    have hfb : σ 60 41 = (if a = -1 then 1000000000 else F0 - b) := by rw [hI.2.2.1, up1_s]
    have hfbr : 0 ≤ σ 60 41 + 50000 ∧ σ 60 41 ≤ 1000000000 := by rw [hfb]; split <;> omega
    have hb5 := hI.2.2.2.2.2
    refine tt_iload X rfl dX10_nextOf_38 ?_
    refine tt_aload_n X rfl dX10_nextOf_40 ?_
    refine tt_geti X fX10_101 (k_60 _ _) (by decide) (Or.inl rfl) dX10_nextOf_41 ?_
    try simp (disch := decide) only [ot_rd, ot_rs, ot_rf, ot_ucd, ot_ucs, he, he60]
    refine tt_icmp_ge X 133 (by first | omega | (simp (disch := decide) only [ot_rd, ot_rs, ot_rf, ot_ucd, ot_ucs, he, he60]; omega)) dX10_nextOf_44 (by decide) (fun b44 => ?_) (fun b44 => ?_)
    · refine tt_iload_n X rfl dX10_nextOf_133 ?_
      refine tt_iret X ⟨hr.1, hr.2.1⟩ (by decide) (by decide) dX10_nextOf_134 ?_
      refine ⟨rfl, hI.2.1, hI.2.2.2.1, by omega, b, ?_, by omega, hI.2.2.1⟩
      rw [hI.2.2.2.2.1]
      unfold nextS
      rw [if_neg (by omega), hmay, hgain, show i = μ 60 2 by omega]
    · refine tt_aload_n X rfl dX10_nextOf_47 ?_
      refine tt_iload_n X rfl dX10_nextOf_48 ?_
      refine tt_iload X rfl dX10_nextOf_49 ?_
      refine tt_vi X rfl mX10_255 (q_canGo l g ln ext _ _ _ (by omega) (by omega) (by simp (disch := decide) only [ot_rd, ot_rs, ot_rf, ot_ucd, ot_ucs, ot_rdf, he, he60]; omega) (by simp (disch := decide) only [ot_rd, ot_rs, ot_rf, ot_ucd, ot_ucs, ot_rdf, he, he60]; omega)) (k_60 _ _) ⟨_, rfl, rfl⟩ rfl rfl (Nat.le_of_ble_eq_true rfl) (by decide) (by decide) (by decide) dX10_nextOf_51 (fun z51 L51 μ51 hp => ?_)
      obtain ⟨rfl, e51, hz51⟩ := hp
      replace e51 := e51.symm
      subst e51
      simp (disch := decide) only [ot_rd, ot_rs, ot_rf, ot_ucd, ot_ucs, ot_rdf, he, he60] at hz51
      have hz51b : z51 = 0 ∨ z51 = 1 := by rw [hz51]; split <;> omega
      have hmi0 : z51 = 0 → may i = 0 := fun w => by rw [hmq]; exact gLaw_cant hz51 w
      refine tt_if_eq X 127 (by first | omega | (simp (disch := decide) only [ot_rd, ot_rs, ot_rf, ot_ucd, ot_ucs, he, he60]; omega)) dX10_nextOf_54 (by decide) (fun b54 => ?_) (fun b54 => ?_)
      · refine tt_iinc X dX10_nextOf_127 rfl (by decide) ?_
        refine tt_goto X 38 dX10_nextOf_130 (by decide) ?_
        refine tt_loc [(0, _), (1, _), (2, _), (3, _), (4, _), (5, _)] ⟨rfl, rfl, rfl, rfl, rfl, rfl, trivial⟩ ?_
        have e := nxS_toNat may gain hi.1
        rw [← hI.2.2.2.2.1] at e
        replace e : nxS may gain (i + 1).toNat = if may i = 1 ∧ (a = -1 ∨ b < gain i) then (i, gain i) else (a, b) := e
        refine tt_gen (fun σ2 hσ => ?_)
        have q1 : eqx [82, 83, 80, 81, 60] μ σ2 := by
          rw [hσ]
          repeat first | exact hI.2.1 | refine eqx_uc ?_ (by decide) | refine eqx_up ?_ (by decide)
        have q2 : ∀ k, 0 ≤ k → k < 64 → σ2 83 k = D0 k := by
          intro k k1 k2
          rw [hσ]
          first
            | (exact hI.2.2.2.1 k k1 k2)
            | (simp (disch := decide) only [ot_rd, ot_rs, ot_rf, ot_ucd, ot_ucs, ot_rdf, he, he60]; exact hI.2.2.2.1 k k1 k2)
            | (simp (disch := decide) only [ot_rd, ot_rs, ot_rf, ot_ucd, ot_ucs, ot_rdf, he, he60]; rw [wr_in ⟨k1, k2⟩, wr_in ⟨k1, k2⟩, hI.2.2.2.1 k k1 k2, Int.neg_mul]; omega)
        first
          | (refine ih (σ2, i + 1, a, b) ⟨by show 0 ≤ i + 1 ∧ i + 1 ≤ μ 60 2; omega, q1, ?_, q2, ?_, by show -1 ≤ a ∧ a < i + 1; omega, hI.2.2.2.2.2.2⟩ (by show (μ 60 2 - (i + 1)).toNat < (μ 60 2 - i).toNat; omega)
             · show σ2 60 = up1 (μ 60) 41 (if a = -1 then 1000000000 else F0 - b)
               rw [hσ]; first | exact hI.2.2.1 | (simp (disch := decide) only [ot_rd, ot_rs, ot_rf, ot_ucd, ot_ucs, ot_rdf]; exact hI.2.2.1)
             · show (a, b) = nxS may gain (i + 1).toNat
               rw [e, if_neg (by omega)])
          | (refine ih (σ2, i + 1, i, gain i) ⟨by show 0 ≤ i + 1 ∧ i + 1 ≤ μ 60 2; omega, q1, ?_, q2, ?_, by show -1 ≤ i ∧ i < i + 1; omega, hgb⟩ (by show (μ 60 2 - (i + 1)).toNat < (μ 60 2 - i).toNat; omega)
             · show σ2 60 = up1 (μ 60) 41 (if i = -1 then 1000000000 else F0 - gain i)
               rw [hσ, ot_up_uc, ot_ucs, if_neg (by omega), ← hv]; simp (disch := decide) only [ot_rd, ot_rs, ot_rf, ot_ucd, ot_ucs, ot_rdf]; rw [hI.2.2.1, up1_up1]
             · show (i, gain i) = nxS may gain (i + 1).toNat
               rw [e, if_pos (by omega)])
      · refine tt_aload_n X rfl dX10_nextOf_57 ?_
        refine tt_iload_n X rfl dX10_nextOf_58 ?_
        refine tt_iload X rfl dX10_nextOf_59 ?_
        refine tt_vi X rfl mX10_258 (q_lets l g ln ext _ _ _ (by simp (disch := decide) only [ot_rd, ot_rs, ot_rf, ot_ucd, ot_ucs, ot_rdf, he, he60]; exact hG) (by simp (disch := decide) only [ot_rd, ot_rs, ot_rf, ot_ucd, ot_ucs, ot_rdf, he, he60]; exact hW) (by simp (disch := decide) only [ot_rd, ot_rs, ot_rf, ot_ucd, ot_ucs, ot_rdf, he, he60]; exact hs) (by simp (disch := decide) only [ot_rd, ot_rs, ot_rf, ot_ucd, ot_ucs, ot_rdf, he, he60]; exact hL) (by omega) (by simp (disch := decide) only [ot_rd, ot_rs, ot_rf, ot_ucd, ot_ucs, ot_rdf, he, he60]; omega) (by simp (disch := decide) only [ot_rd, ot_rs, ot_rf, ot_ucd, ot_ucs, ot_rdf, he, he60]; omega) (by simp (disch := decide) only [ot_rd, ot_rs, ot_rf, ot_ucd, ot_ucs, ot_rdf, he, he60]; have := can_one hz51 (by omega); omega)) (k_60 _ _) ⟨_, rfl, rfl⟩ rfl rfl (Nat.le_of_ble_eq_true rfl) (by decide) (by decide) (by decide) dX10_nextOf_61 (fun z61 L61 μ61 hp => ?_)
        obtain ⟨rfl, hz61, f61, S61, rfl⟩ := hp
        simp (disch := decide) only [ot_rd, ot_rs, ot_rf, ot_ucd, ot_ucs, ot_rdf, he, he60] at hz61
        have hmi : may i = z61 := by rw [hmq, hz61]; exact gLaw_can hc1 hz51 (by omega)
        have hz61b : z61 = 0 ∨ z61 = 1 := by rw [hz61]; exact lawS_bool _
        refine tt_if_ne X 70 (by first | omega | (simp (disch := decide) only [ot_rd, ot_rs, ot_rf, ot_ucd, ot_ucs, he, he60]; omega)) dX10_nextOf_64 (by decide) (fun b64 => ?_) (fun b64 => ?_)
        · have hm1 : may i = 1 := by rw [hmi]; omega
          have hcan := mayS_can (by rw [← hmq]; exact hm1)
          have hne : z30 ≠ i := by omega
          have hsb := fun k => smp_bd hG (a := z30) (b := i) (by omega) (by omega) hne k
          refine tt_aload_n X rfl dX10_nextOf_70 ?_
          refine tt_iload X rfl dX10_nextOf_71 ?_
          refine tt_iload X rfl dX10_nextOf_73 ?_
          refine tt_aload_n X rfl dX10_nextOf_75 ?_
          refine tt_getr X fX10_20 (k_60 _ _) (by decide) ⟨nofun, nofun⟩ rfl dX10_nextOf_76 ?_
          refine tt_iload_n X rfl dX10_nextOf_79 ?_
          refine tt_iaload X (k_63 _ _) (by first | omega | (simp (disch := decide) only [ot_rd, ot_rs, ot_rf, ot_ucd, ot_ucs, he, he60]; omega)) dX10_nextOf_80 ?_
          try simp (disch := decide) only [ot_rd, ot_rs, ot_rf, ot_ucd, ot_ucs, he, he60]
          refine tt_vv X rfl mX10_242 (q_darkens l g ln ext _ z30 i (μ 63 t) (by simp (disch := decide) only [ot_rd, ot_rs, ot_rf, ot_ucd, ot_ucs, ot_rdf, he, he60]; exact hG) (by simp (disch := decide) only [ot_rd, ot_rs, ot_rf, ot_ucd, ot_ucs, ot_rdf, he, he60]; omega) (by simp (disch := decide) only [ot_rd, ot_rs, ot_rf, ot_ucd, ot_ucs, ot_rdf, he, he60]; omega) hne) (k_60 _ _) ⟨_, rfl, rfl⟩ rfl rfl (Nat.le_of_ble_eq_true rfl) (by decide) (by decide) (by decide) dX10_nextOf_81 (fun L81 μ81 hp => ?_)
          obtain ⟨rfl, rfl⟩ := hp
          simp (disch := decide) only [ot_rd, ot_rs, ot_rf, ot_ucd, ot_ucs, ot_rdf, he, he60]
          refine tt_aload_n X rfl dX10_nextOf_84 ?_
          refine tt_iload_n X rfl dX10_nextOf_85 ?_
          refine tt_vi X rfl mX10_267 (q_farOf l g ln ext _ pp (by omega) (by simp (disch := decide) only [ot_rd, ot_rs, ot_rf, ot_ucd, ot_ucs, ot_rdf, he, he60]; omega) (by simp (disch := decide) only [ot_rd, ot_rs, ot_rf, ot_ucd, ot_ucs, ot_rdf, he, he60]; exact gFar_of hWn (by omega) (fun k k1 k2 => by rw [wr_in ⟨k1, k2⟩, hI.2.2.2.1 k k1 k2]; have h1 := hD1 k; have h2 := shd_mul hst (hsb k); omega))) (k_60 _ _) ⟨_, rfl, rfl⟩ rfl rfl (Nat.le_of_ble_eq_true rfl) (by decide) (by decide) (by decide) dX10_nextOf_86 (fun z86 L86 μ86 hp => ?_)
          obtain ⟨rfl, e86, hz86⟩ := hp
          replace e86 := e86.symm
          subst e86
          simp (disch := decide) only [ot_rd, ot_rs, ot_rf, ot_ucd, ot_ucs, ot_rdf, he, he60] at hz86
          refine tt_istore X dX10_nextOf_89 (by decide) ?_
          refine tt_aload_n X rfl dX10_nextOf_91 ?_
          refine tt_iload X rfl dX10_nextOf_92 ?_
          refine tt_iload X rfl dX10_nextOf_94 ?_
          refine tt_aload_n X rfl dX10_nextOf_96 ?_
          refine tt_getr X fX10_20 (k_60 _ _) (by decide) ⟨nofun, nofun⟩ rfl dX10_nextOf_97 ?_
          refine tt_iload_n X rfl dX10_nextOf_100 ?_
          refine tt_iaload X (k_63 _ _) (by first | omega | (simp (disch := decide) only [ot_rd, ot_rs, ot_rf, ot_ucd, ot_ucs, he, he60]; omega)) dX10_nextOf_101 ?_
          try simp (disch := decide) only [ot_rd, ot_rs, ot_rf, ot_ucd, ot_ucs, he, he60]
          refine tt_ineg X dX10_nextOf_102 ?_
          refine tt_vv X rfl mX10_242 (q_darkens l g ln ext _ z30 i (-(μ 63 t)) (by simp (disch := decide) only [ot_rd, ot_rs, ot_rf, ot_ucd, ot_ucs, ot_rdf, he, he60]; exact hG) (by simp (disch := decide) only [ot_rd, ot_rs, ot_rf, ot_ucd, ot_ucs, ot_rdf, he, he60]; omega) (by simp (disch := decide) only [ot_rd, ot_rs, ot_rf, ot_ucd, ot_ucs, ot_rdf, he, he60]; omega) hne) (k_60 _ _) ⟨_, rfl, rfl⟩ rfl rfl (Nat.le_of_ble_eq_true rfl) (by decide) (by decide) (by decide) dX10_nextOf_103 (fun L103 μ103 hp => ?_)
          obtain ⟨rfl, rfl⟩ := hp
          simp (disch := decide) only [ot_rd, ot_rs, ot_rf, ot_ucd, ot_ucs, ot_rdf, he, he60]
          refine tt_iload X rfl dX10_nextOf_106 ?_
          refine tt_aload_n X rfl dX10_nextOf_108 ?_
          refine tt_geti X fX10_271 (k_60 _ _) (by decide) (Or.inl rfl) dX10_nextOf_109 ?_
          try simp (disch := decide) only [ot_rd, ot_rs, ot_rf, ot_ucd, ot_ucs, he, he60]
          have hv : z86 = F0 - gain i := by
            rw [hz86, farM_congr (d2 := fun k => D0 k + μ 63 t * smp (μ 60 1) (μ 61) (μ 62) z30 i k) (fun k k1 k2 => by rw [wr_in ⟨k1, k2⟩, hI.2.2.2.1 k k1 k2])]
            rw [farM_S (fun k k1 k2 hk => ⟨(hWn pp k (by omega) (by omega) k1 k2).2 hk, by rw [hD2 k hk, smp_out hG (by omega) (by omega) hne hk]; omega⟩), hF0, hgq]
            unfold gnS
            rw [← hz30e, ← hD0]
            exact farS_gain (fun k _ _ => rfl)
          have hgb : -41472 ≤ gain i ∧ gain i ≤ 41472 := by rw [hgq]; exact gnS_bd hG hw0 hst (by omega) (by omega) (by omega)
          have hfb2 : (a = -1 ∧ σ 60 41 = 1000000000) ∨ (a ≠ -1 ∧ σ 60 41 = F0 - b) := by
            rw [hfb]; by_cases w : a = -1
            · rw [if_pos w]; exact Or.inl ⟨w, rfl⟩
            · rw [if_neg w]; exact Or.inr ⟨w, rfl⟩
          refine tt_icmp_lt X 118 (by first | omega | (simp (disch := decide) only [ot_rd, ot_rs, ot_rf, ot_ucd, ot_ucs, he, he60]; omega)) dX10_nextOf_112 (by decide) (fun b112 => ?_) (fun b112 => ?_)
          · refine tt_iload X rfl dX10_nextOf_118 ?_
            refine tt_istore_n X dX10_nextOf_120 (by decide) ?_
            refine tt_aload_n X rfl dX10_nextOf_121 ?_
            refine tt_iload X rfl dX10_nextOf_122 ?_
            refine tt_puti X fX10_271 kc_10 (k_60 _ _) (by decide) (fun q hq => by cases hq; rfl) rfl dX10_nextOf_124 ?_
            refine tt_iinc X dX10_nextOf_127 rfl (by decide) ?_
            refine tt_goto X 38 dX10_nextOf_130 (by decide) ?_
            refine tt_loc [(0, _), (1, _), (2, _), (3, _), (4, _), (5, _)] ⟨rfl, rfl, rfl, rfl, rfl, rfl, trivial⟩ ?_
            have e := nxS_toNat may gain hi.1
            rw [← hI.2.2.2.2.1] at e
            replace e : nxS may gain (i + 1).toNat = if may i = 1 ∧ (a = -1 ∨ b < gain i) then (i, gain i) else (a, b) := e
            refine tt_gen (fun σ2 hσ => ?_)
            have q1 : eqx [82, 83, 80, 81, 60] μ σ2 := by
              rw [hσ]
              repeat first | exact hI.2.1 | refine eqx_uc ?_ (by decide) | refine eqx_up ?_ (by decide)
            have q2 : ∀ k, 0 ≤ k → k < 64 → σ2 83 k = D0 k := by
              intro k k1 k2
              rw [hσ]
              first
                | (exact hI.2.2.2.1 k k1 k2)
                | (simp (disch := decide) only [ot_rd, ot_rs, ot_rf, ot_ucd, ot_ucs, ot_rdf, he, he60]; exact hI.2.2.2.1 k k1 k2)
                | (simp (disch := decide) only [ot_rd, ot_rs, ot_rf, ot_ucd, ot_ucs, ot_rdf, he, he60]; rw [wr_in ⟨k1, k2⟩, wr_in ⟨k1, k2⟩, hI.2.2.2.1 k k1 k2, Int.neg_mul]; omega)
            first
              | (refine ih (σ2, i + 1, a, b) ⟨by show 0 ≤ i + 1 ∧ i + 1 ≤ μ 60 2; omega, q1, ?_, q2, ?_, by show -1 ≤ a ∧ a < i + 1; omega, hI.2.2.2.2.2.2⟩ (by show (μ 60 2 - (i + 1)).toNat < (μ 60 2 - i).toNat; omega)
                 · show σ2 60 = up1 (μ 60) 41 (if a = -1 then 1000000000 else F0 - b)
                   rw [hσ]; first | exact hI.2.2.1 | (simp (disch := decide) only [ot_rd, ot_rs, ot_rf, ot_ucd, ot_ucs, ot_rdf]; exact hI.2.2.1)
                 · show (a, b) = nxS may gain (i + 1).toNat
                   rw [e, if_neg (by omega)])
              | (refine ih (σ2, i + 1, i, gain i) ⟨by show 0 ≤ i + 1 ∧ i + 1 ≤ μ 60 2; omega, q1, ?_, q2, ?_, by show -1 ≤ i ∧ i < i + 1; omega, hgb⟩ (by show (μ 60 2 - (i + 1)).toNat < (μ 60 2 - i).toNat; omega)
                 · show σ2 60 = up1 (μ 60) 41 (if i = -1 then 1000000000 else F0 - gain i)
                   rw [hσ, ot_up_uc, ot_ucs, if_neg (by omega), ← hv]; simp (disch := decide) only [ot_rd, ot_rs, ot_rf, ot_ucd, ot_ucs, ot_rdf]; rw [hI.2.2.1, up1_up1]
                 · show (i, gain i) = nxS may gain (i + 1).toNat
                   rw [e, if_pos (by omega)])
          · refine tt_goto X 127 dX10_nextOf_115 (by decide) ?_
            refine tt_iinc X dX10_nextOf_127 rfl (by decide) ?_
            refine tt_goto X 38 dX10_nextOf_130 (by decide) ?_
            refine tt_loc [(0, _), (1, _), (2, _), (3, _), (4, _), (5, _)] ⟨rfl, rfl, rfl, rfl, rfl, rfl, trivial⟩ ?_
            have e := nxS_toNat may gain hi.1
            rw [← hI.2.2.2.2.1] at e
            replace e : nxS may gain (i + 1).toNat = if may i = 1 ∧ (a = -1 ∨ b < gain i) then (i, gain i) else (a, b) := e
            refine tt_gen (fun σ2 hσ => ?_)
            have q1 : eqx [82, 83, 80, 81, 60] μ σ2 := by
              rw [hσ]
              repeat first | exact hI.2.1 | refine eqx_uc ?_ (by decide) | refine eqx_up ?_ (by decide)
            have q2 : ∀ k, 0 ≤ k → k < 64 → σ2 83 k = D0 k := by
              intro k k1 k2
              rw [hσ]
              first
                | (exact hI.2.2.2.1 k k1 k2)
                | (simp (disch := decide) only [ot_rd, ot_rs, ot_rf, ot_ucd, ot_ucs, ot_rdf, he, he60]; exact hI.2.2.2.1 k k1 k2)
                | (simp (disch := decide) only [ot_rd, ot_rs, ot_rf, ot_ucd, ot_ucs, ot_rdf, he, he60]; rw [wr_in ⟨k1, k2⟩, wr_in ⟨k1, k2⟩, hI.2.2.2.1 k k1 k2, Int.neg_mul]; omega)
            first
              | (refine ih (σ2, i + 1, a, b) ⟨by show 0 ≤ i + 1 ∧ i + 1 ≤ μ 60 2; omega, q1, ?_, q2, ?_, by show -1 ≤ a ∧ a < i + 1; omega, hI.2.2.2.2.2.2⟩ (by show (μ 60 2 - (i + 1)).toNat < (μ 60 2 - i).toNat; omega)
                 · show σ2 60 = up1 (μ 60) 41 (if a = -1 then 1000000000 else F0 - b)
                   rw [hσ]; first | exact hI.2.2.1 | (simp (disch := decide) only [ot_rd, ot_rs, ot_rf, ot_ucd, ot_ucs, ot_rdf]; exact hI.2.2.1)
                 · show (a, b) = nxS may gain (i + 1).toNat
                   rw [e, if_neg (by omega)])
              | (refine ih (σ2, i + 1, i, gain i) ⟨by show 0 ≤ i + 1 ∧ i + 1 ≤ μ 60 2; omega, q1, ?_, q2, ?_, by show -1 ≤ i ∧ i < i + 1; omega, hgb⟩ (by show (μ 60 2 - (i + 1)).toNat < (μ 60 2 - i).toNat; omega)
                 · show σ2 60 = up1 (μ 60) 41 (if i = -1 then 1000000000 else F0 - gain i)
                   rw [hσ, ot_up_uc, ot_ucs, if_neg (by omega), ← hv]; simp (disch := decide) only [ot_rd, ot_rs, ot_rf, ot_ucd, ot_ucs, ot_rdf]; rw [hI.2.2.1, up1_up1]
                 · show (i, gain i) = nxS may gain (i + 1).toNat
                   rw [e, if_pos (by omega)])
        · refine tt_goto X 127 dX10_nextOf_67 (by decide) ?_
          refine tt_iinc X dX10_nextOf_127 rfl (by decide) ?_
          refine tt_goto X 38 dX10_nextOf_130 (by decide) ?_
          refine tt_loc [(0, _), (1, _), (2, _), (3, _), (4, _), (5, _)] ⟨rfl, rfl, rfl, rfl, rfl, rfl, trivial⟩ ?_
          have e := nxS_toNat may gain hi.1
          rw [← hI.2.2.2.2.1] at e
          replace e : nxS may gain (i + 1).toNat = if may i = 1 ∧ (a = -1 ∨ b < gain i) then (i, gain i) else (a, b) := e
          refine tt_gen (fun σ2 hσ => ?_)
          have q1 : eqx [82, 83, 80, 81, 60] μ σ2 := by
            rw [hσ]
            repeat first | exact hI.2.1 | refine eqx_uc ?_ (by decide) | refine eqx_up ?_ (by decide)
          have q2 : ∀ k, 0 ≤ k → k < 64 → σ2 83 k = D0 k := by
            intro k k1 k2
            rw [hσ]
            first
              | (exact hI.2.2.2.1 k k1 k2)
              | (simp (disch := decide) only [ot_rd, ot_rs, ot_rf, ot_ucd, ot_ucs, ot_rdf, he, he60]; exact hI.2.2.2.1 k k1 k2)
              | (simp (disch := decide) only [ot_rd, ot_rs, ot_rf, ot_ucd, ot_ucs, ot_rdf, he, he60]; rw [wr_in ⟨k1, k2⟩, wr_in ⟨k1, k2⟩, hI.2.2.2.1 k k1 k2, Int.neg_mul]; omega)
          first
            | (refine ih (σ2, i + 1, a, b) ⟨by show 0 ≤ i + 1 ∧ i + 1 ≤ μ 60 2; omega, q1, ?_, q2, ?_, by show -1 ≤ a ∧ a < i + 1; omega, hI.2.2.2.2.2.2⟩ (by show (μ 60 2 - (i + 1)).toNat < (μ 60 2 - i).toNat; omega)
               · show σ2 60 = up1 (μ 60) 41 (if a = -1 then 1000000000 else F0 - b)
                 rw [hσ]; first | exact hI.2.2.1 | (simp (disch := decide) only [ot_rd, ot_rs, ot_rf, ot_ucd, ot_ucs, ot_rdf]; exact hI.2.2.1)
               · show (a, b) = nxS may gain (i + 1).toNat
                 rw [e, if_neg (by omega)])
            | (refine ih (σ2, i + 1, i, gain i) ⟨by show 0 ≤ i + 1 ∧ i + 1 ≤ μ 60 2; omega, q1, ?_, q2, ?_, by show -1 ≤ i ∧ i < i + 1; omega, hgb⟩ (by show (μ 60 2 - (i + 1)).toNat < (μ 60 2 - i).toNat; omega)
               · show σ2 60 = up1 (μ 60) 41 (if i = -1 then 1000000000 else F0 - gain i)
                 rw [hσ, ot_up_uc, ot_ucs, if_neg (by omega), ← hv]; simp (disch := decide) only [ot_rd, ot_rs, ot_rf, ot_ucd, ot_ucs, ot_rdf]; rw [hI.2.2.1, up1_up1]
               · show (i, gain i) = nxS may gain (i + 1).toNat
                 rw [e, if_pos (by omega)])
  · refine tt_iconst X dX10_nextOf_18 ?_
    refine tt_iret X ⟨hr.1, hr.2.1⟩ (by decide) (by decide) dX10_nextOf_19 ?_
    refine ⟨rfl, eqx_up (eqx_rfl _ _) (by decide), fun k k1 k2 => by simp (disch := decide) only [ot_rd, ot_rs, ot_rf, ot_ucd, ot_ucs, ot_rdf]; exact hD k k1 k2, by omega, 0, ?_, by omega, ?_⟩
    · unfold nextS; rw [if_pos (by omega)]
    · rw [if_pos rfl, ot_up_uc, ot_ucs]

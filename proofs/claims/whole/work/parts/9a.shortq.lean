theorem tR_rng {D : Nat → Nat → Int} {n c : Nat} (hD : ∀ i j, 0 ≤ D i j ∧ D i j ≤ 8) (hn : n ≤ 12) (hc : c < 2 ^ n) : 0 ≤ tR D n c ∧ tR D n c ≤ 1000000000 := by
  unfold tR
  by_cases h : cnt c n % 2 = 0
  · rw [if_pos h]
    have h1 := tT_ok hD _ c (Nat.lt_succ_self _) hc h
    have h2 := cnt_le c n
    omega
  · rw [if_neg h]; decide
theorem rnV_rng {D : Nat → Nat → Int} {T : Nat → Int} {c a : Nat} (hD : ∀ i j, 0 ≤ D i j ∧ D i j ≤ 8) : ∀ n, (∀ j, a < j → j < n → c.testBit j = true → 0 ≤ T (c ^^^ 2 ^ a ^^^ 2 ^ j)) → 0 ≤ rnV D T c a n ∧ rnV D T c a n ≤ 1000000000
  | 0, _ => by show 0 ≤ (1000000000 : Int) ∧ (1000000000 : Int) ≤ 1000000000; decide
  | n + 1, h => by
    have ih := rnV_rng (T := T) (c := c) (a := a) hD n (fun j h1 h2 => h j h1 (by omega))
    by_cases w : a < n ∧ c.testBit n = true
    · have h1 := h n w.1 (by omega) w.2
      have h2 := hD a n
      rw [rnV_y w]
      split <;> omega
    · rw [rnV_n w]; exact ih
/-- the least of the sets of all but two -/
def eS (D : Nat → Nat → Int) (n c : Nat) (v : Int) : Prop := (v = (if n = 0 then 0 else 1000000000) ∧ ∀ u, u < c → cnt u n + 2 ≠ n) ∨ ((∃ u, u < c ∧ cnt u n + 2 = n ∧ v = tR D n u) ∧ ∀ u, u < c → cnt u n + 2 = n → v ≤ tR D n u)
theorem eS_no {D : Nat → Nat → Int} {n c : Nat} {v : Int} (h : eS D n c v) (hc : cnt c n + 2 ≠ n) : eS D n (c + 1) v := by
  rcases h with h | h
  · refine .inl ⟨h.1, fun u hu => ?_⟩
    by_cases e : u = c
    · rw [e]; exact hc
    · exact h.2 u (by omega)
  · obtain ⟨⟨u, h1, h2, h3⟩, h4⟩ := h
    refine .inr ⟨⟨u, by omega, h2, h3⟩, fun w hw hw2 => ?_⟩
    by_cases e : w = c
    · rw [e] at hw2; exact absurd hw2 hc
    · exact h4 w (by omega) hw2
theorem eS_yes {D : Nat → Nat → Int} {n c : Nat} {v x : Int} (h : eS D n c v) (hc : cnt c n + 2 = n) (hx : x = tR D n c) (hb : x < 1000000000) : (x < v → eS D n (c + 1) x) ∧ (¬ x < v → eS D n (c + 1) v) := by
  constructor
  · intro hlt
    refine .inr ⟨⟨c, by omega, hc, hx⟩, fun w hw hw2 => ?_⟩
    by_cases e : w = c
    · rw [e, hx]; exact Int.le_refl _
    · rcases h with h | h
      · exact absurd hw2 (h.2 w (by omega))
      · have := h.2 w (by omega) hw2
        omega
  · intro hge
    rcases h with h | h
    · have := h.1
      rw [if_neg (by omega)] at this
      omega
    · obtain ⟨⟨u, h1, h2, h3⟩, h4⟩ := h
      refine .inr ⟨⟨u, by omega, h2, h3⟩, fun w hw hw2 => ?_⟩
      by_cases e : w = c
      · rw [e, ← hx]; omega
      · exact h4 w (by omega) hw2
theorem eS_done {D : Nat → Nat → Int} {n c : Nat} {v : Int} (h : eS D n c v) (hc : c = 2 ^ n) (hev : n % 2 = 0) : if n = 0 then v = 0 else isS D n v := by
  by_cases h0 : n = 0
  · rw [if_pos h0]
    rcases h with h | h
    · rw [h.1, if_pos h0]
    · obtain ⟨⟨u, _, h2, _⟩, _⟩ := h
      omega
  · rw [if_neg h0]
    have hT : ∀ u, cnt u n + 2 = n → tR D n u = tT D n u := fun u hu => by unfold tR; rw [if_pos (by omega)]
    rcases h with h | h
    · have := all_two (n := n) (i := 0) (j := 1) (by omega) (by omega)
      exact absurd this.1 (h.2 _ (by omega))
    · obtain ⟨⟨u, h1, h2, h3⟩, h4⟩ := h
      obtain ⟨i, j, e1, e2, e3⟩ := is_all_two (by omega) h2
      refine ⟨⟨i, j, e1, e2, by rw [h3, hT u h2, e3]⟩, fun i j q1 q2 => ?_⟩
      have q3 := all_two q1 q2
      have := h4 _ (by omega) q3.1
      rw [hT _ q3.1] at this
      exact this
theorem an_del {c a : Nat} (h : c.testBit a = true) : anN c (2 ^ a) = c ^^^ 2 ^ a := by
  refine Nat.eq_of_testBit_eq (fun u => ?_)
  rw [tb_an, tb_p, tb_x]
  by_cases w : a = u
  · rw [if_pos w, decide_eq_true w, ← w, h]; rfl
  · rw [if_neg w, decide_eq_false w]; simp
theorem an2 {c a j n : Nat} (hn : n ≤ 12) (hc : c < 2 ^ n) (haj : a < j) (hj : j < n) (h1 : c.testBit a = true) (h2 : c.testBit j = true) : ot_and (ot_and (c : Int) (ot_xor (ot_shl 1 (a : Int)) (-1))) (ot_xor (ot_shl 1 (j : Int)) (-1)) = ((c ^^^ 2 ^ a ^^^ 2 ^ j : Nat) : Int) := by
  have hp := p12 hn
  have pa := p12i hn (show a < n by omega)
  have pj := p12i hn hj
  have hl : c ^^^ 2 ^ a < 2 ^ n := Nat.xor_lt_two_pow hc (Nat.pow_lt_pow_right (by decide) (show a < n by omega))
  rw [bo_shl1 a (by omega), bo_shl1 j (by omega), bo_an (by omega) (by omega), an_del h1, bo_an (by omega) (by omega), an_del (by rw [tb_x, if_neg (by omega)]; exact h2)]
set_option maxRecDepth 100000 in
set_option maxHeartbeats 1000000 in
theorem q_shortest (l : Launch) (g : ot_G) (ln : Nat) (ext : ot_L) (μ : ot_M) (hN : gNet (μ 60 11) (μ 69) (μ 70)) (J : Nat → Nat) (hJe : J = joN (nA (μ 69)) (nA (μ 70)) (μ 60 11).toNat) (od : Nat) (hode : od = oddN (nA (μ 69)) (nA (μ 70)) (2 ^ (μ 60 11).toNat - 1) (μ 60 11).toNat) (hG : gPin (μ 60 1) (μ 60 2) (μ 61) (μ 62)) (hset : ∀ l : Nat, (l : Int) < μ 60 11 → μ 69 (l : Int) < μ 60 2 ∧ μ 70 (l : Int) < μ 60 2)  : ot_C l g yX10_shortest cX10_shortest 9 (some .int) 2 0 0 [.inr 60] (LL ln ext) μ (ot_pi (fun r L2 μ2 => L2 = LL ln ext ∧ (∃ F G, μ2 = ot_uc (ot_uc μ 85 G) 84 F) ∧ shS (lnD (knF J od 24).2.2.2 (μ 61) (μ 62) (selI od)) (knF J od 24).2.2.2 ((knF J od 24).2.2.1 : Int) r)) := by
  refine ot_enter (by decide) (Nat.le_of_ble_eq_true rfl) ?_
  intro p e s m args below meth c X hr
  have hM := hN.1
  have hw := hN.2.2
  have hal := all_q hM
  have hJ0 := joN_is hw
  rw [← hJe] at hJ0
  have hlt : ∀ u, J u < 16777216 := fun u => by rw [hJe]; exact joN_lt hw (Nat.le_refl _) u
  have hodl : od < 16777216 := by rw [hode]; exact oddN_lt hw _ (Nat.le_refl _)
  have hkb := knF_bound (od := od) hw hJ0
  have hko := knF_od hw hJ0 hode
  have hkp := knF_par hw hJ0 hode
  rw [hko.2] at hkp ⊢
  obtain ⟨n, hn⟩ : ∃ n, n = cnt od 24 := ⟨_, rfl⟩
  rw [← hn] at hkp ⊢
  have hn24 := cnt_le od 24
  have hpin := hG.2.1
  refine tt_aload_n X rfl dX10_shortest_0 ?_
  refine tt_aload_n X rfl dX10_shortest_1 ?_
  refine tt_vi X rfl mX10_278 (q_allLines l g ln ext _) (k_60 _ _) ⟨_, rfl, rfl⟩ rfl rfl (Nat.le_of_ble_eq_true rfl) (by decide) (by decide) (by decide) dX10_shortest_2 (fun z2 L2 μ2 hp => ?_)
  obtain ⟨rfl, e2, hz2⟩ := hp
  replace e2 := e2.symm
  subst e2
  rw [hal.1] at hz2
  refine tt_top hz2 ?_
  try simp (disch := decide) only [ot_rd, ot_rs, ot_rf, ot_ucd, ot_ucs] at hz2
  refine tt_vi X rfl mX10_290 (q_oddOf l g ln ext _ (2 ^ (μ 60 11).toNat - 1) hal.2 hN) (k_60 _ _) ⟨_, rfl, rfl⟩ rfl rfl (Nat.le_of_ble_eq_true rfl) (by decide) (by decide) (by decide) dX10_shortest_5 (fun z5 L5 μ5 hp => ?_)
  obtain ⟨rfl, e5, hz5⟩ := hp
  replace e5 := e5.symm
  subst e5
  rw [← hode] at hz5
  refine tt_top hz5 ?_
  try simp (disch := decide) only [ot_rd, ot_rs, ot_rf, ot_ucd, ot_ucs] at hz5
  refine tt_istore_n X dX10_shortest_8 (by decide) ?_
  refine tt_aload_n X rfl dX10_shortest_9 ?_
  refine tt_iload_n X rfl dX10_shortest_10 ?_
  refine tt_vi X rfl mX10_293 (q_ones l g ln ext _ ((od : Nat) : Int) (by omega)) (k_60 _ _) ⟨_, rfl, rfl⟩ rfl rfl (Nat.le_of_ble_eq_true rfl) (by decide) (by decide) (by decide) dX10_shortest_11 (fun z11 L11 μ11 hp => ?_)
  obtain ⟨rfl, e11, hz11⟩ := hp
  replace e11 := e11.symm
  subst e11
  rw [pop_cnt hodl, ← hn] at hz11
  refine tt_top hz11 ?_
  try simp (disch := decide) only [ot_rd, ot_rs, ot_rf, ot_ucd, ot_ucs] at hz11
  refine tt_istore_n X dX10_shortest_14 (by decide) ?_
  refine tt_aload_n X rfl dX10_shortest_15 ?_
  refine tt_vi X rfl mX10_296 (q_parts l g ln ext _ hN J hJe od hode) (k_60 _ _) ⟨_, rfl, rfl⟩ rfl rfl (Nat.le_of_ble_eq_true rfl) (by decide) (by decide) (by decide) dX10_shortest_16 (fun z16 L16 μ16 hp => ?_)
  obtain ⟨rfl, e16, hz16⟩ := hp
  replace e16 := e16.symm
  subst e16
  try simp (disch := decide) only [ot_rd, ot_rs, ot_rf, ot_ucd, ot_ucs] at hz16
  refine tt_iconst X dX10_shortest_19 ?_
  refine tt_icmp_ne X 29 (by first | omega | (simp (disch := decide) only [ot_rd, ot_rs, ot_rf, ot_ucd, ot_ucs]; omega)) dX10_shortest_20 (by decide) (fun b20 => ?_) (fun b20 => ?_)
  · refine tt_iconst X dX10_shortest_29 ?_
    refine tt_iret X ⟨hr.1, hr.2.1⟩ (by decide) (by decide) dX10_shortest_30 ?_
    refine ⟨rfl, ⟨μ 84, μ 85, by rw [ot_uc_self, ot_uc_self]⟩, ?_⟩
    unfold shS
    rw [if_pos (by omega)]
  · refine tt_iload_n X rfl dX10_shortest_23 ?_
    refine tt_bipush X (by decide) dX10_shortest_24 ?_
    refine tt_icmp_le X 31 (by first | omega | (simp (disch := decide) only [ot_rd, ot_rs, ot_rf, ot_ucd, ot_ucs]; omega)) dX10_shortest_26 (by decide) (fun b26 => ?_) (fun b26 => ?_)
    · refine tt_iconst X dX10_shortest_31 ?_
      refine tt_istore_n X dX10_shortest_32 (by decide) ?_
      refine tt_iconst X dX10_shortest_33 ?_
      refine tt_istore X dX10_shortest_34 (by decide) ?_
      refine tt_mem (μ' := ot_uc μ 85 (μ 85)) (by rw [ot_uc_self]) ?_
      refine tt_loc [(0, _), (1, _), (2, _), (3, _), (4, _)] ⟨rfl, rfl, rfl, rfl, rfl, trivial⟩ ?_
      refine tt_loop (α := Nat × (Int → Int)) (fun ((p0, G)) => (μ 60 2).toNat - p0) (fun ((p0, G)) => (p0 : Int) ≤ μ 60 2 ∧ ∀ u, u < p0 → od.testBit u = true → G (cnt od u : Int) = (u : Int)) (fun ((p0, G)) => ot_uc μ 85 G) (fun ((p0, G)) => [(0, .inr 60), (1, .inl (od : Int)), (2, .inl (n : Int)), (3, .inl (cnt od p0 : Int)), (4, .inl (p0 : Int))]) (0, μ 85) ⟨by show ((0 : Nat) : Int) ≤ _; omega, fun u hu => absurd hu (Nat.not_lt_zero u)⟩ ?_
      intro a hI ih
      obtain ⟨p0, G⟩ := a
      try dsimp only at hI ih ⊢
      replace hI : (p0 : Int) ≤ μ 60 2 ∧ ∀ u, u < p0 → od.testBit u = true → G (cnt od u : Int) = (u : Int) := hI
      have hp0 := hI.1
      refine tt_iload X rfl dX10_shortest_36 ?_
      refine tt_aload_n X rfl dX10_shortest_38 ?_
      refine tt_geti X fX10_101 (k_60 _ _) (by decide) (Or.inl rfl) dX10_shortest_39 ?_
      try simp (disch := decide) only [ot_rd, ot_rs, ot_rf, ot_ucd, ot_ucs]
      refine tt_icmp_ge X 75 (by first | omega | (simp (disch := decide) only [ot_rd, ot_rs, ot_rf, ot_ucd, ot_ucs]; omega)) dX10_shortest_42 (by decide) (fun b42 => ?_) (fun b42 => ?_)
      · refine tt_aload_n X rfl dX10_shortest_75 ?_
        refine tt_getr X fX10_86 (k_60 _ _) (by decide) ⟨nofun, nofun⟩ rfl dX10_shortest_76 ?_
        refine tt_iconst X dX10_shortest_79 ?_
        refine tt_iconst X dX10_shortest_80 ?_
        refine tt_iastore X (k_84 _ _) (by first | omega | (simp (disch := decide) only [ot_rd, ot_rs, ot_rf, ot_ucd, ot_ucs]; omega)) dX10_shortest_81 ?_
        refine tt_join1 93 [.inl (if n = 0 then 0 else 1000000000)] ?_ (fun J93 => ?_)
        · refine tt_istore X dX10_shortest_93 (by decide) ?_
          refine tt_iconst X dX10_shortest_95 ?_
          refine tt_istore X dX10_shortest_96 (by decide) ?_
          refine tt_mem (μ' := ot_uc (ot_uc μ 85 G) 84 (up1 (μ 84) 0 0)) (by funext q c1; by_cases w1 : q = 84 <;> by_cases w2 : q = 85 <;> simp [ot_up, ot_uc, up1, w1, w2]) ?_
          have hn12 : n ≤ 12 := by omega
          have hp12 := p12 hn12
          have hGl : ∀ u, u < 24 → od.testBit u = true → G (cnt od u : Int) = (u : Int) := fun u _ hu2 => by
            refine hI.2 u ?_ hu2
            have hup := od_pin (n := (μ 60 2).toNat) hode (fun l hl => by
              have h1 := hset l (by omega)
              have h2 := nA_eq hN (l := l) (by omega)
              omega) hu2
            omega
          have hgo : gOd n (μ 61) (μ 62) G := ⟨hn12, fun i hi => by
            rw [hn] at hi
            obtain ⟨u, u1, u2, u3⟩ := sel_ex 24 hi
            have hGu := hGl u u1 u2
            rw [u3] at hGu
            have hup := od_pin (n := (μ 60 2).toNat) hode (fun l hl => by
              have h1 := hset l (by omega)
              have h2 := nA_eq hN (l := l) (by omega)
              omega) u2
            have hat := gPin_at hG (a := (u : Int)) (by omega) (by omega)
            rw [hGu]
            omega⟩
          have hDk := lnD_ok hgo
          refine tt_loc [(0, _), (1, _), (2, _), (4, _), (5, _)] ⟨rfl, rfl, rfl, rfl, rfl, trivial⟩ ?_
          refine tt_loop (α := Nat × (Int → Int)) (fun ((c0, F)) => 2 ^ n - c0) (fun ((c0, F)) => (1 ≤ c0 ∧ c0 ≤ 2 ^ n) ∧ ∀ u, u < c0 → F (u : Int) = (tR (lnD n (μ 61) (μ 62) G) n) u) (fun ((c0, F)) => ot_uc (ot_uc μ 85 G) 84 F) (fun ((c0, F)) => [(0, .inr 60), (1, .inl (od : Int)), (2, .inl (n : Int)), (4, .inl (if n = 0 then 0 else 1000000000)), (5, .inl (c0 : Int))]) (1, up1 (μ 84) 0 0) ⟨⟨Nat.le_refl _, hp12.1⟩, fun u hu => by have hu0 : u = 0 := (by omega); subst hu0; show up1 (μ 84) 0 0 0 = _; rw [up1_s]; unfold tR; rw [cnt_zero, if_pos rfl, tT_zero]⟩ ?_
          intro a hI2 ih2
          obtain ⟨c0, F⟩ := a
          try dsimp only at hI2 ih2 ⊢
          replace hI2 : (1 ≤ c0 ∧ c0 ≤ 2 ^ n) ∧ ∀ u, u < c0 → F (u : Int) = (tR (lnD n (μ 61) (μ 62) G) n) u := hI2
          have hc0 := hI2.1
          refine tt_iload X rfl dX10_shortest_98 ?_
          refine tt_iconst X dX10_shortest_100 ?_
          refine tt_iload_n X rfl dX10_shortest_101 ?_
          refine tt_ishl X dX10_shortest_102 ?_
          refine tt_top (bo_shl1 n (by omega)) ?_
          refine tt_icmp_ge X 234 (by first | omega | (simp (disch := decide) only [ot_rd, ot_rs, ot_rf, ot_ucd, ot_ucs]; omega)) dX10_shortest_103 (by decide) (fun b103 => ?_) (fun b103 => ?_)
          · refine tt_iconst X dX10_shortest_234 ?_
            refine tt_istore X dX10_shortest_235 (by decide) ?_
            have hce : c0 = 2 ^ n := by omega
            have hFT := hI2.2
            rw [hce] at hFT
            refine tt_loc [(0, _), (1, _), (2, _), (4, _), (5, _)] ⟨rfl, rfl, rfl, rfl, rfl, trivial⟩ ?_
            refine tt_loop (α := Nat × Int) (fun ((c1, v)) => 2 ^ n - c1) (fun ((c1, v)) => c1 ≤ 2 ^ n ∧ eS (lnD n (μ 61) (μ 62) G) n c1 v ∧ (0 ≤ v ∧ v ≤ 1000000000)) (fun ((c1, v)) => ot_uc (ot_uc μ 85 G) 84 F) (fun ((c1, v)) => [(0, .inr 60), (1, .inl (od : Int)), (2, .inl (n : Int)), (4, .inl v), (5, .inl (c1 : Int))]) (0, if n = 0 then 0 else 1000000000) ⟨Nat.zero_le _, .inl ⟨rfl, fun u hu => absurd hu (Nat.not_lt_zero u)⟩, by show 0 ≤ (if n = 0 then (0 : Int) else 1000000000) ∧ (if n = 0 then (0 : Int) else 1000000000) ≤ 1000000000; split <;> decide⟩ ?_
            intro a hI4 ih4
            obtain ⟨c1, v⟩ := a
            try dsimp only at hI4 ih4 ⊢
            replace hI4 : c1 ≤ 2 ^ n ∧ eS (lnD n (μ 61) (μ 62) G) n c1 v ∧ (0 ≤ v ∧ v ≤ 1000000000) := hI4
            have hc1 := hI4.1
            have hv4 := hI4.2.2
            have hccl := cnt_le c1 n
            refine tt_iload X rfl dX10_shortest_237 ?_
            refine tt_iconst X dX10_shortest_239 ?_
            refine tt_iload_n X rfl dX10_shortest_240 ?_
            refine tt_ishl X dX10_shortest_241 ?_
            refine tt_top (bo_shl1 n (by omega)) ?_
            refine tt_icmp_ge X 284 (by first | omega | (simp (disch := decide) only [ot_rd, ot_rs, ot_rf, ot_ucd, ot_ucs]; omega)) dX10_shortest_242 (by decide) (fun b242 => ?_) (fun b242 => ?_)
            · refine tt_iload X rfl dX10_shortest_284 ?_
              refine tt_iret X ⟨hr.1, hr.2.1⟩ (by decide) (by decide) dX10_shortest_286 ?_
              refine ⟨rfl, ⟨F, G, rfl⟩, ?_⟩
              unfold shS
              rw [if_neg (by omega), lnD_congr (G := selI od) (G2 := G) (fun i hi => (G_sel hGl (by omega)).symm)]
              have := eS_done hI4.2.1 (by omega) hkp
              exact this
            · refine tt_aload_n X rfl dX10_shortest_245 ?_
              refine tt_iload X rfl dX10_shortest_246 ?_
              refine tt_vi X rfl mX10_293 (q_ones l g ln ext _ ((c1 : Nat) : Int) (by omega)) (k_60 _ _) ⟨_, rfl, rfl⟩ rfl rfl (Nat.le_of_ble_eq_true rfl) (by decide) (by decide) (by decide) dX10_shortest_248 (fun z248 L248 μ248 hp => ?_)
              obtain ⟨rfl, e248, hz248⟩ := hp
              replace e248 := e248.symm
              subst e248
              rw [pop_cnt (by omega), cnt_more (m := c1) (k := n) (by omega) 24 (by omega)] at hz248
              refine tt_top hz248 ?_
              try simp (disch := decide) only [ot_rd, ot_rs, ot_rf, ot_ucd, ot_ucs] at hz248
              refine tt_iload_n X rfl dX10_shortest_251 ?_
              refine tt_iconst X dX10_shortest_252 ?_
              refine tt_isub X dX10_shortest_253 ?_
              refine tt_icmp_ne X 278 (by first | omega | (simp (disch := decide) only [ot_rd, ot_rs, ot_rf, ot_ucd, ot_ucs]; omega)) dX10_shortest_254 (by decide) (fun b254 => ?_) (fun b254 => ?_)
              · refine tt_iinc X dX10_shortest_278 rfl (by decide) ?_
                refine tt_goto X 237 dX10_shortest_281 (by decide) ?_
                refine tt_loc [(0, _), (1, _), (2, _), (4, _), (5, _)] ⟨rfl, rfl, rfl, rfl, rfl, trivial⟩ ?_
                first
                  | exact ih4 (c1 + 1, v) ⟨by show c1 + 1 ≤ 2 ^ n; omega, eS_no hI4.2.1 (by omega), hI4.2.2⟩ (by show 2 ^ n - (c1 + 1) < 2 ^ n - c1; omega)
                  | exact ih4 (c1 + 1, x) ⟨by show c1 + 1 ≤ 2 ^ n; omega, hys.1 (by omega), hx4⟩ (by show 2 ^ n - (c1 + 1) < 2 ^ n - c1; omega)
                  | exact ih4 (c1 + 1, v) ⟨by show c1 + 1 ≤ 2 ^ n; omega, hys.2 (by omega), hI4.2.2⟩ (by show 2 ^ n - (c1 + 1) < 2 ^ n - c1; omega)
              · refine tt_aload_n X rfl dX10_shortest_257 ?_
                refine tt_getr X fX10_86 (k_60 _ _) (by decide) ⟨nofun, nofun⟩ rfl dX10_shortest_258 ?_
                refine tt_iload X rfl dX10_shortest_261 ?_
                refine tt_iaload X (k_84 _ _) (by first | omega | (simp (disch := decide) only [ot_rd, ot_rs, ot_rf, ot_ucd, ot_ucs]; omega)) dX10_shortest_263 ?_
                try simp (disch := decide) only [ot_rd, ot_rs, ot_rf, ot_ucd, ot_ucs]
                obtain ⟨x, hxd⟩ : ∃ x, x = (tR (lnD n (μ 61) (μ 62) G) n) c1 := ⟨_, rfl⟩
                have hcc : cnt c1 n + 2 = n := by omega
                have hx4 : 0 ≤ x ∧ x ≤ 1000000000 := by rw [hxd]; exact tR_rng hDk hn12 (by omega)
                have hx5 : x < 1000000000 := by
                  have h1 := tT_ok hDk _ c1 (Nat.lt_succ_self _) (by omega) (show cnt c1 n % 2 = 0 by omega)
                  have h2 := cnt_le c1 n
                  rw [hxd]
                  unfold tR
                  rw [if_pos (by omega)]
                  omega
                have hys := eS_yes hI4.2.1 hcc hxd hx5
                refine tt_top (y := x) (by rw [hxd]; exact hFT c1 (by omega)) ?_
                refine tt_iload X rfl dX10_shortest_264 ?_
                refine tt_icmp_ge X 278 (by first | omega | (simp (disch := decide) only [ot_rd, ot_rs, ot_rf, ot_ucd, ot_ucs]; omega)) dX10_shortest_266 (by decide) (fun b266 => ?_) (fun b266 => ?_)
                · refine tt_iinc X dX10_shortest_278 rfl (by decide) ?_
                  refine tt_goto X 237 dX10_shortest_281 (by decide) ?_
                  refine tt_loc [(0, _), (1, _), (2, _), (4, _), (5, _)] ⟨rfl, rfl, rfl, rfl, rfl, trivial⟩ ?_
                  first
                    | exact ih4 (c1 + 1, v) ⟨by show c1 + 1 ≤ 2 ^ n; omega, eS_no hI4.2.1 (by omega), hI4.2.2⟩ (by show 2 ^ n - (c1 + 1) < 2 ^ n - c1; omega)
                    | exact ih4 (c1 + 1, x) ⟨by show c1 + 1 ≤ 2 ^ n; omega, hys.1 (by omega), hx4⟩ (by show 2 ^ n - (c1 + 1) < 2 ^ n - c1; omega)
                    | exact ih4 (c1 + 1, v) ⟨by show c1 + 1 ≤ 2 ^ n; omega, hys.2 (by omega), hI4.2.2⟩ (by show 2 ^ n - (c1 + 1) < 2 ^ n - c1; omega)
                · refine tt_aload_n X rfl dX10_shortest_269 ?_
                  refine tt_getr X fX10_86 (k_60 _ _) (by decide) ⟨nofun, nofun⟩ rfl dX10_shortest_270 ?_
                  refine tt_iload X rfl dX10_shortest_273 ?_
                  refine tt_iaload X (k_84 _ _) (by first | omega | (simp (disch := decide) only [ot_rd, ot_rs, ot_rf, ot_ucd, ot_ucs]; omega)) dX10_shortest_275 ?_
                  try simp (disch := decide) only [ot_rd, ot_rs, ot_rf, ot_ucd, ot_ucs]
                  refine tt_top (y := x) (by rw [hxd]; exact hFT c1 (by omega)) ?_
                  refine tt_istore X dX10_shortest_276 (by decide) ?_
                  refine tt_iinc X dX10_shortest_278 rfl (by decide) ?_
                  refine tt_goto X 237 dX10_shortest_281 (by decide) ?_
                  refine tt_loc [(0, _), (1, _), (2, _), (4, _), (5, _)] ⟨rfl, rfl, rfl, rfl, rfl, trivial⟩ ?_
                  first
                    | exact ih4 (c1 + 1, v) ⟨by show c1 + 1 ≤ 2 ^ n; omega, eS_no hI4.2.1 (by omega), hI4.2.2⟩ (by show 2 ^ n - (c1 + 1) < 2 ^ n - c1; omega)
                    | exact ih4 (c1 + 1, x) ⟨by show c1 + 1 ≤ 2 ^ n; omega, hys.1 (by omega), hx4⟩ (by show 2 ^ n - (c1 + 1) < 2 ^ n - c1; omega)
                    | exact ih4 (c1 + 1, v) ⟨by show c1 + 1 ≤ 2 ^ n; omega, hys.2 (by omega), hI4.2.2⟩ (by show 2 ^ n - (c1 + 1) < 2 ^ n - c1; omega)
          · refine tt_aload_n X rfl dX10_shortest_106 ?_
            refine tt_getr X fX10_86 (k_60 _ _) (by decide) ⟨nofun, nofun⟩ rfl dX10_shortest_107 ?_
            refine tt_iload X rfl dX10_shortest_110 ?_
            refine tt_ldcw X (n := 1000000000) (ot_mem 1378 (by decide +kernel) (by decide +kernel)) dX10_shortest_112 ?_
            refine tt_iastore X (k_84 _ _) (by first | omega | (simp (disch := decide) only [ot_rd, ot_rs, ot_rf, ot_ucd, ot_ucs]; omega)) dX10_shortest_115 ?_
            refine tt_aload_n X rfl dX10_shortest_116 ?_
            refine tt_iload X rfl dX10_shortest_117 ?_
            obtain ⟨a, hae⟩ : ∃ a, a = lsN (fun u => c0.testBit u) n := ⟨_, rfl⟩
            have ha := low_of (n := n) (c := c0) (by omega) (by omega)
            rw [← hae] at ha
            refine tt_vi X rfl mX10_284 (q_leastIn l g ln ext _ c0 a (by omega) ha.2.1 ha.2.2) (k_60 _ _) ⟨_, rfl, rfl⟩ rfl rfl (Nat.le_of_ble_eq_true rfl) (by decide) (by decide) (by decide) dX10_shortest_119 (fun z119 L119 μ119 hp => ?_)
            obtain ⟨rfl, e119, hz119⟩ := hp
            replace e119 := e119.symm
            subst e119
            refine tt_top hz119 ?_
            try simp (disch := decide) only [ot_rd, ot_rs, ot_rf, ot_ucd, ot_ucs] at hz119
            refine tt_istore X dX10_shortest_122 (by decide) ?_
            refine tt_iload X rfl dX10_shortest_124 ?_
            refine tt_iconst X dX10_shortest_126 ?_
            refine tt_iadd X dX10_shortest_127 ?_
            refine tt_istore X dX10_shortest_128 (by decide) ?_
            refine tt_mem (μ' := ot_uc (ot_uc μ 85 G) 84 (up1 F (c0 : Int) 1000000000)) (by funext q c1; by_cases w1 : q = 84 <;> by_cases w2 : c1 = (c0 : Int) <;> simp [ot_up, ot_uc, up1, w1, w2]) ?_
            refine tt_loc [(0, _), (1, _), (2, _), (4, _), (5, _), (6, _), (7, _)] ⟨rfl, rfl, rfl, rfl, rfl, rfl, rfl, trivial⟩ ?_
            refine tt_loop (α := Nat × Int) (fun ((j, v)) => n - j) (fun ((j, v)) => (a + 1 ≤ j ∧ j ≤ n) ∧ v = rnV (lnD n (μ 61) (μ 62) G) (tR (lnD n (μ 61) (μ 62) G) n) c0 a j) (fun ((j, v)) => ot_uc (ot_uc μ 85 G) 84 (up1 F (c0 : Int) v)) (fun ((j, v)) => [(0, .inr 60), (1, .inl (od : Int)), (2, .inl (n : Int)), (4, .inl (if n = 0 then 0 else 1000000000)), (5, .inl (c0 : Int)), (6, .inl (a : Int)), (7, .inl (j : Int))]) (a + 1, 1000000000) ⟨⟨Nat.le_refl _, by show a + 1 ≤ n; omega⟩, (rnV_low (a + 1) (Nat.le_refl _)).symm⟩ ?_
            intro a hI3 ih3
            obtain ⟨j, v⟩ := a
            try dsimp only at hI3 ih3 ⊢
            replace hI3 : (a + 1 ≤ j ∧ j ≤ n) ∧ v = rnV (lnD n (μ 61) (μ 62) G) (tR (lnD n (μ 61) (μ 62) G) n) c0 a j := hI3
            have hj := hI3.1
            have hvr : 0 ≤ v ∧ v ≤ 1000000000 := by
              rw [hI3.2]
              exact rnV_rng hDk j (fun j2 q1 q2 q3 => (tR_rng hDk hn12 (lt_del (by omega) ha.1 (by omega))).1)
            refine tt_iload X rfl dX10_shortest_130 ?_
            refine tt_iload_n X rfl dX10_shortest_132 ?_
            refine tt_icmp_ge X 228 (by first | omega | (simp (disch := decide) only [ot_rd, ot_rs, ot_rf, ot_ucd, ot_ucs]; omega)) dX10_shortest_133 (by decide) (fun b133 => ?_) (fun b133 => ?_)
            · refine tt_iinc X dX10_shortest_228 rfl (by decide) ?_
              refine tt_goto X 98 dX10_shortest_231 (by decide) ?_
              refine tt_loc [(0, _), (1, _), (2, _), (4, _), (5, _)] ⟨rfl, rfl, rfl, rfl, rfl, trivial⟩ ?_
              have hje : j = n := by omega
              refine ih2 (c0 + 1, up1 F (c0 : Int) v) ⟨by show 1 ≤ c0 + 1 ∧ c0 + 1 ≤ 2 ^ n; omega, fun u hu => ?_⟩ (by show 2 ^ n - (c0 + 1) < 2 ^ n - c0; omega)
              show up1 F (c0 : Int) v (u : Int) = _
              by_cases w : u = c0
              · subst w
                rw [up1_s, hI3.2, hje, tR_eq hDk hn12 (by omega) (by omega), ← hae]
              · rw [up1_n (by omega)]
                exact hI2.2 u (by omega)
            · refine tt_iload X rfl dX10_shortest_136 ?_
              refine tt_iload X rfl dX10_shortest_138 ?_
              refine tt_ishr X dX10_shortest_140 ?_
              refine tt_iconst X dX10_shortest_141 ?_
              refine tt_iand X dX10_shortest_142 ?_
              refine tt_top (nt_test (m := c0) (i := j) (by omega) (by omega)) ?_
              refine tt_if_ne X 149 (by split <;> omega) dX10_shortest_143 (by decide) (fun b143 => ?_) (fun b143 => ?_)
              · have hb : c0.testBit j = true := by
                  cases w : c0.testBit j
                  · rw [w] at b143; simp at b143
                  · rfl
                have h2l := two_lt (show a < j by omega) ha.2.1 hb
                have hxl := lt_del (n := n) (show c0 < 2 ^ n by omega) (show a < n by omega) (show j < n by omega)
                have hxr := tR_rng hDk hn12 hxl
                have hDj := hDk a j
                have hGa := hgo.2 a (by omega)
                have hGj := hgo.2 j (by omega)
                obtain ⟨x, hxd⟩ : ∃ x, x = (tR (lnD n (μ 61) (μ 62) G) n) (c0 ^^^ 2 ^ a ^^^ 2 ^ j) + (lnD n (μ 61) (μ 62) G) a j := ⟨_, rfl⟩
                refine tt_aload_n X rfl dX10_shortest_149 ?_
                refine tt_getr X fX10_86 (k_60 _ _) (by decide) ⟨nofun, nofun⟩ rfl dX10_shortest_150 ?_
                refine tt_iload X rfl dX10_shortest_153 ?_
                refine tt_iconst X dX10_shortest_155 ?_
                refine tt_iload X rfl dX10_shortest_156 ?_
                refine tt_ishl X dX10_shortest_158 ?_
                refine tt_iconst X dX10_shortest_159 ?_
                refine tt_ixor X dX10_shortest_160 ?_
                refine tt_iand X dX10_shortest_161 ?_
                refine tt_iconst X dX10_shortest_162 ?_
                refine tt_iload X rfl dX10_shortest_163 ?_
                refine tt_ishl X dX10_shortest_165 ?_
                refine tt_iconst X dX10_shortest_166 ?_
                refine tt_ixor X dX10_shortest_167 ?_
                refine tt_iand X dX10_shortest_168 ?_
                refine tt_top (an2 hn12 (by omega) (by omega) (by omega) ha.2.1 hb) ?_
                refine tt_iaload X (k_84 _ _) (by first | omega | (simp (disch := decide) only [ot_rd, ot_rs, ot_rf, ot_ucd, ot_ucs]; omega)) dX10_shortest_169 ?_
                try simp (disch := decide) only [ot_rd, ot_rs, ot_rf, ot_ucd, ot_ucs]
                refine tt_top (y := (tR (lnD n (μ 61) (μ 62) G) n) (c0 ^^^ 2 ^ a ^^^ 2 ^ j)) (by rw [up1_n (by omega)]; exact hI2.2 _ (by omega)) ?_
                refine tt_aload_n X rfl dX10_shortest_170 ?_
                refine tt_aload_n X rfl dX10_shortest_171 ?_
                refine tt_getr X fX10_89 (k_60 _ _) (by decide) ⟨nofun, nofun⟩ rfl dX10_shortest_172 ?_
                refine tt_iload X rfl dX10_shortest_175 ?_
                refine tt_iaload X (k_85 _ _) (by first | omega | (simp (disch := decide) only [ot_rd, ot_rs, ot_rf, ot_ucd, ot_ucs]; omega)) dX10_shortest_177 ?_
                try simp (disch := decide) only [ot_rd, ot_rs, ot_rf, ot_ucd, ot_ucs]
                refine tt_aload_n X rfl dX10_shortest_178 ?_
                refine tt_getr X fX10_89 (k_60 _ _) (by decide) ⟨nofun, nofun⟩ rfl dX10_shortest_179 ?_
                refine tt_iload X rfl dX10_shortest_182 ?_
                refine tt_iaload X (k_85 _ _) (by first | omega | (simp (disch := decide) only [ot_rd, ot_rs, ot_rf, ot_ucd, ot_ucs]; omega)) dX10_shortest_184 ?_
                try simp (disch := decide) only [ot_rd, ot_rs, ot_rf, ot_ucd, ot_ucs]
                refine tt_vi X rfl mX10_230 (q_lengthOf l g ln ext _ _ _ (by omega) (by omega) (by simp (disch := decide) only [ot_rd, ot_rs, ot_rf, ot_ucd, ot_ucs, ot_rdf]; omega)) (k_60 _ _) ⟨_, rfl, rfl⟩ rfl rfl (Nat.le_of_ble_eq_true rfl) (by decide) (by decide) (by decide) dX10_shortest_185 (fun z185 L185 μ185 hp => ?_)
                obtain ⟨rfl, e185, hz185⟩ := hp
                replace e185 := e185.symm
                subst e185
                try simp (disch := decide) only [ot_rd, ot_rs, ot_rf, ot_ucd, ot_ucs] at hz185
                refine tt_iadd X dX10_shortest_188 ?_
                refine tt_top (y := x) (by rw [hz185, hxd]; unfold lnD; rw [if_pos (show a < n ∧ j < n by omega)]) ?_
                refine tt_istore X dX10_shortest_189 (by decide) ?_
                refine tt_aload_n X rfl dX10_shortest_191 ?_
                refine tt_getr X fX10_86 (k_60 _ _) (by decide) ⟨nofun, nofun⟩ rfl dX10_shortest_192 ?_
                refine tt_iload X rfl dX10_shortest_195 ?_
                refine tt_iload X rfl dX10_shortest_197 ?_
                refine tt_aload_n X rfl dX10_shortest_199 ?_
                refine tt_getr X fX10_86 (k_60 _ _) (by decide) ⟨nofun, nofun⟩ rfl dX10_shortest_200 ?_
                refine tt_iload X rfl dX10_shortest_203 ?_
                refine tt_iaload X (k_84 _ _) (by first | omega | (simp (disch := decide) only [ot_rd, ot_rs, ot_rf, ot_ucd, ot_ucs]; omega)) dX10_shortest_205 ?_
                try simp (disch := decide) only [ot_rd, ot_rs, ot_rf, ot_ucd, ot_ucs]
                refine tt_top (y := v) up1_s ?_
                refine tt_icmp_ge X 214 (by first | omega | (simp (disch := decide) only [ot_rd, ot_rs, ot_rf, ot_ucd, ot_ucs]; omega)) dX10_shortest_206 (by decide) (fun b206 => ?_) (fun b206 => ?_)
                · refine tt_aload_n X rfl dX10_shortest_214 ?_
                  refine tt_getr X fX10_86 (k_60 _ _) (by decide) ⟨nofun, nofun⟩ rfl dX10_shortest_215 ?_
                  refine tt_iload X rfl dX10_shortest_218 ?_
                  refine tt_iaload X (k_84 _ _) (by first | omega | (simp (disch := decide) only [ot_rd, ot_rs, ot_rf, ot_ucd, ot_ucs]; omega)) dX10_shortest_220 ?_
                  try simp (disch := decide) only [ot_rd, ot_rs, ot_rf, ot_ucd, ot_ucs]
                  try refine tt_top (x := up1 F (c0 : Int) v (c0 : Int)) (y := v) up1_s ?_
                  refine tt_iastore X (k_84 _ _) (by first | omega | (simp (disch := decide) only [ot_rd, ot_rs, ot_rf, ot_ucd, ot_ucs]; omega)) dX10_shortest_221 ?_
                  refine tt_iinc X dX10_shortest_222 rfl (by decide) ?_
                  refine tt_goto X 130 dX10_shortest_225 (by decide) ?_
                  refine tt_loc [(0, _), (1, _), (2, _), (4, _), (5, _), (6, _), (7, _)] ⟨rfl, rfl, rfl, rfl, rfl, rfl, rfl, trivial⟩ ?_
                  first
                    | (have hb : c0.testBit j = false := by
                         cases w : c0.testBit j
                         · rfl
                         · rw [w] at b143; simp at b143
                       exact ih3 (j + 1, v) ⟨by show a + 1 ≤ j + 1 ∧ j + 1 ≤ n; omega, by show v = rnV (lnD n (μ 61) (μ 62) G) (tR (lnD n (μ 61) (μ 62) G) n) c0 a (j + 1); rw [rnV_n (by rw [hb]; simp), ← hI3.2]⟩ (by show n - (j + 1) < n - j; omega))
                    | (have hm := rnV_y (D := (lnD n (μ 61) (μ 62) G)) (T := (tR (lnD n (μ 61) (μ 62) G) n)) (c := c0) (a := a) (j := j) ⟨by omega, hb⟩
                       rw [← hI3.2, ← hxd] at hm
                       first
                         | (rw [if_pos (by omega)] at hm
                            refine tt_mem (μ' := ot_uc (ot_uc μ 85 G) 84 (up1 F (c0 : Int) x)) (by funext q c1; by_cases w1 : q = 84 <;> by_cases w2 : c1 = (c0 : Int) <;> simp [ot_up, ot_uc, up1, w1, w2]) ?_
                            exact ih3 (j + 1, x) ⟨by show a + 1 ≤ j + 1 ∧ j + 1 ≤ n; omega, hm.symm⟩ (by show n - (j + 1) < n - j; omega))
                         | (rw [if_neg (by omega)] at hm
                            refine tt_mem (μ' := ot_uc (ot_uc μ 85 G) 84 (up1 F (c0 : Int) v)) (by funext q c1; by_cases w1 : q = 84 <;> by_cases w2 : c1 = (c0 : Int) <;> simp [ot_up, ot_uc, up1, w1, w2]) ?_
                            exact ih3 (j + 1, v) ⟨by show a + 1 ≤ j + 1 ∧ j + 1 ≤ n; omega, hm.symm⟩ (by show n - (j + 1) < n - j; omega)))
                · refine tt_iload X rfl dX10_shortest_209 ?_
                  refine tt_goto X 221 dX10_shortest_211 (by decide) ?_
                  try refine tt_top (x := up1 F (c0 : Int) v (c0 : Int)) (y := v) up1_s ?_
                  refine tt_iastore X (k_84 _ _) (by first | omega | (simp (disch := decide) only [ot_rd, ot_rs, ot_rf, ot_ucd, ot_ucs]; omega)) dX10_shortest_221 ?_
                  refine tt_iinc X dX10_shortest_222 rfl (by decide) ?_
                  refine tt_goto X 130 dX10_shortest_225 (by decide) ?_
                  refine tt_loc [(0, _), (1, _), (2, _), (4, _), (5, _), (6, _), (7, _)] ⟨rfl, rfl, rfl, rfl, rfl, rfl, rfl, trivial⟩ ?_
                  first
                    | (have hb : c0.testBit j = false := by
                         cases w : c0.testBit j
                         · rfl
                         · rw [w] at b143; simp at b143
                       exact ih3 (j + 1, v) ⟨by show a + 1 ≤ j + 1 ∧ j + 1 ≤ n; omega, by show v = rnV (lnD n (μ 61) (μ 62) G) (tR (lnD n (μ 61) (μ 62) G) n) c0 a (j + 1); rw [rnV_n (by rw [hb]; simp), ← hI3.2]⟩ (by show n - (j + 1) < n - j; omega))
                    | (have hm := rnV_y (D := (lnD n (μ 61) (μ 62) G)) (T := (tR (lnD n (μ 61) (μ 62) G) n)) (c := c0) (a := a) (j := j) ⟨by omega, hb⟩
                       rw [← hI3.2, ← hxd] at hm
                       first
                         | (rw [if_pos (by omega)] at hm
                            refine tt_mem (μ' := ot_uc (ot_uc μ 85 G) 84 (up1 F (c0 : Int) x)) (by funext q c1; by_cases w1 : q = 84 <;> by_cases w2 : c1 = (c0 : Int) <;> simp [ot_up, ot_uc, up1, w1, w2]) ?_
                            exact ih3 (j + 1, x) ⟨by show a + 1 ≤ j + 1 ∧ j + 1 ≤ n; omega, hm.symm⟩ (by show n - (j + 1) < n - j; omega))
                         | (rw [if_neg (by omega)] at hm
                            refine tt_mem (μ' := ot_uc (ot_uc μ 85 G) 84 (up1 F (c0 : Int) v)) (by funext q c1; by_cases w1 : q = 84 <;> by_cases w2 : c1 = (c0 : Int) <;> simp [ot_up, ot_uc, up1, w1, w2]) ?_
                            exact ih3 (j + 1, v) ⟨by show a + 1 ≤ j + 1 ∧ j + 1 ≤ n; omega, hm.symm⟩ (by show n - (j + 1) < n - j; omega)))
              · refine tt_goto X 222 dX10_shortest_146 (by decide) ?_
                refine tt_iinc X dX10_shortest_222 rfl (by decide) ?_
                refine tt_goto X 130 dX10_shortest_225 (by decide) ?_
                refine tt_loc [(0, _), (1, _), (2, _), (4, _), (5, _), (6, _), (7, _)] ⟨rfl, rfl, rfl, rfl, rfl, rfl, rfl, trivial⟩ ?_
                first
                  | (have hb : c0.testBit j = false := by
                       cases w : c0.testBit j
                       · rfl
                       · rw [w] at b143; simp at b143
                     exact ih3 (j + 1, v) ⟨by show a + 1 ≤ j + 1 ∧ j + 1 ≤ n; omega, by show v = rnV (lnD n (μ 61) (μ 62) G) (tR (lnD n (μ 61) (μ 62) G) n) c0 a (j + 1); rw [rnV_n (by rw [hb]; simp), ← hI3.2]⟩ (by show n - (j + 1) < n - j; omega))
                  | (have hm := rnV_y (D := (lnD n (μ 61) (μ 62) G)) (T := (tR (lnD n (μ 61) (μ 62) G) n)) (c := c0) (a := a) (j := j) ⟨by omega, hb⟩
                     rw [← hI3.2, ← hxd] at hm
                     first
                       | (rw [if_pos (by omega)] at hm
                          refine tt_mem (μ' := ot_uc (ot_uc μ 85 G) 84 (up1 F (c0 : Int) x)) (by funext q c1; by_cases w1 : q = 84 <;> by_cases w2 : c1 = (c0 : Int) <;> simp [ot_up, ot_uc, up1, w1, w2]) ?_
                          exact ih3 (j + 1, x) ⟨by show a + 1 ≤ j + 1 ∧ j + 1 ≤ n; omega, hm.symm⟩ (by show n - (j + 1) < n - j; omega))
                       | (rw [if_neg (by omega)] at hm
                          refine tt_mem (μ' := ot_uc (ot_uc μ 85 G) 84 (up1 F (c0 : Int) v)) (by funext q c1; by_cases w1 : q = 84 <;> by_cases w2 : c1 = (c0 : Int) <;> simp [ot_up, ot_uc, up1, w1, w2]) ?_
                          exact ih3 (j + 1, v) ⟨by show a + 1 ≤ j + 1 ∧ j + 1 ≤ n; omega, hm.symm⟩ (by show n - (j + 1) < n - j; omega)))
        · refine tt_iload_n X rfl dX10_shortest_82 ?_
          refine tt_if_ne X 90 (by first | omega | (simp (disch := decide) only [ot_rd, ot_rs, ot_rf, ot_ucd, ot_ucs]; omega)) dX10_shortest_83 (by decide) (fun b83 => ?_) (fun b83 => ?_)
          · refine tt_ldcw X (n := 1000000000) (ot_mem 1378 (by decide +kernel) (by decide +kernel)) dX10_shortest_90 ?_
            refine tt_top (show _ = (if n = 0 then (0 : Int) else 1000000000) by first | rw [if_pos (by omega)] | rw [if_neg (by omega)]) ?_
            exact J93
          · refine tt_iconst X dX10_shortest_86 ?_
            refine tt_goto X 93 dX10_shortest_87 (by decide) ?_
            refine tt_top (show _ = (if n = 0 then (0 : Int) else 1000000000) by first | rw [if_pos (by omega)] | rw [if_neg (by omega)]) ?_
            exact J93
      · refine tt_iload_n X rfl dX10_shortest_45 ?_
        refine tt_iload X rfl dX10_shortest_46 ?_
        refine tt_ishr X dX10_shortest_48 ?_
        refine tt_iconst X dX10_shortest_49 ?_
        refine tt_iand X dX10_shortest_50 ?_
        refine tt_top (nt_test (m := od) (i := p0) (by omega) (by omega)) ?_
        refine tt_if_ne X 57 (by split <;> omega) dX10_shortest_51 (by decide) (fun b51 => ?_) (fun b51 => ?_)
        · have hb57 : od.testBit p0 = true := by
            cases w : od.testBit p0
            · rw [w] at b51; simp at b51
            · rfl
          have hcat := cnt_at (m := od) (i := p0) (j := 24) (n := 24) (by omega) (Nat.le_refl _) hb57
          refine tt_aload_n X rfl dX10_shortest_57 ?_
          refine tt_getr X fX10_89 (k_60 _ _) (by decide) ⟨nofun, nofun⟩ rfl dX10_shortest_58 ?_
          refine tt_iload_n X rfl dX10_shortest_61 ?_
          refine tt_iload X rfl dX10_shortest_62 ?_
          refine tt_iastore X (k_85 _ _) (by first | omega | (simp (disch := decide) only [ot_rd, ot_rs, ot_rf, ot_ucd, ot_ucs]; omega)) dX10_shortest_64 ?_
          refine tt_iload_n X rfl dX10_shortest_65 ?_
          refine tt_iconst X dX10_shortest_66 ?_
          refine tt_iadd X dX10_shortest_67 ?_
          refine tt_istore_n X dX10_shortest_68 (by decide) ?_
          refine tt_iinc X dX10_shortest_69 rfl (by decide) ?_
          refine tt_goto X 36 dX10_shortest_72 (by decide) ?_
          refine tt_loc [(0, _), (1, _), (2, _), (3, _), (4, _)] ⟨rfl, rfl, rfl, rfl, rfl, trivial⟩ ?_
          first
            | (have hb : od.testBit p0 = false := by
                 cases w : od.testBit p0
                 · rfl
                 · rw [w] at b51; simp at b51
               have h2 := ih (p0 + 1, G) ⟨by show ((p0 + 1 : Nat) : Int) ≤ _; omega, fun u hu hu2 => by
                 by_cases w : u = p0
                 · subst w; rw [hb] at hu2; cases hu2
                 · exact hI.2 u (by omega) hu2⟩ (by show (μ 60 2).toNat - (p0 + 1) < (μ 60 2).toNat - p0; omega)
               dsimp only at h2
               rw [cnt_s, hb] at h2
               exact h2)
            | (have hb : od.testBit p0 = true := by
                 cases w : od.testBit p0
                 · rw [w] at b51; simp at b51
                 · rfl
               refine tt_mem (μ' := ot_uc μ 85 (up1 G (cnt od p0 : Int) (p0 : Int))) (by funext q c1; by_cases w1 : q = 85 <;> simp [ot_up, ot_uc, up1, w1]) ?_
               have h2 := ih (p0 + 1, up1 G (cnt od p0 : Int) (p0 : Int)) ⟨by show ((p0 + 1 : Nat) : Int) ≤ _; omega, fun u hu hu2 => by
                 show up1 G (cnt od p0 : Int) (p0 : Int) (cnt od u : Int) = (u : Int)
                 by_cases w : u = p0
                 · subst w; rw [up1_s]
                 · have := cnt_at (m := od) (i := u) (j := p0) (n := p0) (by omega) (Nat.le_refl _) hu2
                   rw [up1_n (by omega)]
                   exact hI.2 u (by omega) hu2⟩ (by show (μ 60 2).toNat - (p0 + 1) < (μ 60 2).toNat - p0; omega)
               dsimp only at h2
               rw [cnt_s, hb] at h2
               exact h2)
        · refine tt_goto X 69 dX10_shortest_54 (by decide) ?_
          refine tt_iinc X dX10_shortest_69 rfl (by decide) ?_
          refine tt_goto X 36 dX10_shortest_72 (by decide) ?_
          refine tt_loc [(0, _), (1, _), (2, _), (3, _), (4, _)] ⟨rfl, rfl, rfl, rfl, rfl, trivial⟩ ?_
          first
            | (have hb : od.testBit p0 = false := by
                 cases w : od.testBit p0
                 · rfl
                 · rw [w] at b51; simp at b51
               have h2 := ih (p0 + 1, G) ⟨by show ((p0 + 1 : Nat) : Int) ≤ _; omega, fun u hu hu2 => by
                 by_cases w : u = p0
                 · subst w; rw [hb] at hu2; cases hu2
                 · exact hI.2 u (by omega) hu2⟩ (by show (μ 60 2).toNat - (p0 + 1) < (μ 60 2).toNat - p0; omega)
               dsimp only at h2
               rw [cnt_s, hb] at h2
               exact h2)
            | (have hb : od.testBit p0 = true := by
                 cases w : od.testBit p0
                 · rw [w] at b51; simp at b51
                 · rfl
               refine tt_mem (μ' := ot_uc μ 85 (up1 G (cnt od p0 : Int) (p0 : Int))) (by funext q c1; by_cases w1 : q = 85 <;> simp [ot_up, ot_uc, up1, w1]) ?_
               have h2 := ih (p0 + 1, up1 G (cnt od p0 : Int) (p0 : Int)) ⟨by show ((p0 + 1 : Nat) : Int) ≤ _; omega, fun u hu hu2 => by
                 show up1 G (cnt od p0 : Int) (p0 : Int) (cnt od u : Int) = (u : Int)
                 by_cases w : u = p0
                 · subst w; rw [up1_s]
                 · have := cnt_at (m := od) (i := u) (j := p0) (n := p0) (by omega) (Nat.le_refl _) hu2
                   rw [up1_n (by omega)]
                   exact hI.2 u (by omega) hu2⟩ (by show (μ 60 2).toNat - (p0 + 1) < (μ 60 2).toNat - p0; omega)
               dsimp only at h2
               rw [cnt_s, hb] at h2
               exact h2)
    · refine tt_iconst X dX10_shortest_29 ?_
      refine tt_iret X ⟨hr.1, hr.2.1⟩ (by decide) (by decide) dX10_shortest_30 ?_
      refine ⟨rfl, ⟨μ 84, μ 85, by rw [ot_uc_self, ot_uc_self]⟩, ?_⟩
      unfold shS
      rw [if_pos (by omega)]

theorem sel_ex {m i : Nat} : ∀ n, i < cnt m n → ∃ u, u < n ∧ m.testBit u = true ∧ cnt m u = i
  | 0, h => absurd h (Nat.not_lt_zero i)
  | n + 1, h => by
    have e := cnt_s m n
    cases q : m.testBit n
    · rw [q] at e
      simp only [Bool.false_eq_true, if_false, Nat.add_zero] at e
      rw [e] at h
      obtain ⟨u, h1, h2⟩ := sel_ex n h
      exact ⟨u, by omega, h2⟩
    · rw [q] at e
      simp only [if_true] at e
      by_cases w : i < cnt m n
      · obtain ⟨u, h1, h2⟩ := sel_ex n w
        exact ⟨u, by omega, h2⟩
      · exact ⟨n, by omega, q, by omega⟩
/-- the odd pins by their places -/
def selI (od : Nat) : Int → Int := fun i => (lsN (fun u => od.testBit u && decide (cnt od u = i.toNat)) 24 : Int)
theorem sel_of {od : Nat} {u : Nat} (hu : u < 24) (hb : od.testBit u = true) : selI od (cnt od u : Int) = (u : Int) := by
  unfold selI
  rw [Int.toNat_natCast, lsN_eq (b := u) (by rw [hb]; simp) (fun i hi => ?_) 24 hu]
  rw [Bool.eq_false_iff]
  intro w
  rw [Bool.and_eq_true, decide_eq_true_eq] at w
  have := cnt_at (m := od) (i := i) (j := u) (n := u) hi (Nat.le_refl _) w.1
  omega
theorem G_sel {od : Nat} {G : Int → Int} (h : ∀ u, u < 24 → od.testBit u = true → G (cnt od u : Int) = (u : Int)) {i : Nat} (hi : i < cnt od 24) : G (i : Int) = selI od (i : Int) := by
  obtain ⟨u, h1, h2, h3⟩ := sel_ex 24 hi
  have e1 := h u h1 h2
  have e2 := sel_of h1 h2
  rw [h3] at e1 e2
  rw [e1, e2]
theorem lnD_congr {n : Nat} {px py G G2 : Int → Int} (h : ∀ i : Nat, i < n → G (i : Int) = G2 (i : Int)) : lnD n px py G = lnD n px py G2 := by
  funext i j
  unfold lnD
  by_cases w : i < n ∧ j < n
  · rw [if_pos w, if_pos w, h i w.1, h j w.2]
  · rw [if_neg w, if_neg w]
def thS (J : Nat → Nat) (od : Nat) (px py : Int → Int) (w r : Int) : Prop :=
  if w = 0 then r = ((knF J od 24).2.1 : Int) else if w = 1 then r = max (((knF J od 24).2.1 : Int) - 1) 0 else if w = 2 then shS (lnD (knF J od 24).2.2.2 px py (selI od)) (knF J od 24).2.2.2 ((knF J od 24).2.2.1 : Int) r else if w = 3 then r = ((knF J od 24).2.2.2 : Int) else if w = 4 then r = ((knF J od 24).2.2.1 : Int) else r = -1
theorem thS_one {J : Nat → Nat} {od : Nat} {px py : Int → Int} {w r r2 : Int} (h1 : thS J od px py w r) (h2 : thS J od px py w r2) : r = r2 := by
  unfold thS at h1 h2
  by_cases w0 : w = 0
  · rw [if_pos w0] at h1 h2; rw [h1, h2]
  · rw [if_neg w0] at h1 h2
    by_cases w1 : w = 1
    · rw [if_pos w1] at h1 h2; rw [h1, h2]
    · rw [if_neg w1] at h1 h2
      by_cases w2 : w = 2
      · rw [if_pos w2] at h1 h2; exact shS_one h1 h2
      · rw [if_neg w2] at h1 h2
        by_cases w3 : w = 3
        · rw [if_pos w3] at h1 h2; rw [h1, h2]
        · rw [if_neg w3] at h1 h2
          by_cases w4 : w = 4
          · rw [if_pos w4] at h1 h2; rw [h1, h2]
          · rw [if_neg w4] at h1 h2; rw [h1, h2]
theorem knF_par {A B : Nat → Nat} {M S : Nat} {J : Nat → Nat} {od : Nat} (hw : wfL A B M) (hJ : isJ A B M S J) (ho : od = oddN A B S M) : (knF J od 24).2.2.2 % 2 = 0 := by
  obtain ⟨c1, c2, c3, c4, c5, c6⟩ := knF_clo (od := od) hw hJ 24 (Nat.le_refl _)
  have := odd_even (S := S) (C := (knF J od 24).1) hw (fun l e1 e2 => by
    have w1 : (J (A l)).testBit (B l) = true := (hJ _ _).mpr ⟨l, e1, e2, .inl ⟨rfl, rfl⟩⟩
    have w2 : (J (B l)).testBit (A l) = true := (hJ _ _).mpr ⟨l, e1, e2, .inr ⟨rfl, rfl⟩⟩
    exact Bool.eq_iff_iff.mpr ⟨fun w => c2 _ _ w w1, fun w => c2 _ _ w w2⟩) M (Nat.le_refl _)
  rw [← ho] at this
  rw [c4]
  exact this
theorem knF_od {A B : Nat → Nat} {M S : Nat} {J : Nat → Nat} {od : Nat} (hw : wfL A B M) (hJ : isJ A B M S J) (ho : od = oddN A B S M) : (knF J od 24).1 &&& od = od ∧ (knF J od 24).2.2.2 = cnt od 24 := by
  obtain ⟨c1, c2, c3, c4, c5, c6⟩ := knF_clo (od := od) hw hJ 24 (Nat.le_refl _)
  have hsub : (knF J od 24).1 &&& od = od := by
    refine Nat.eq_of_testBit_eq (fun i => ?_)
    rw [Nat.testBit_and]
    cases w : od.testBit i
    · simp
    · have hne := (isJ_pin hJ i).mp (oddN_pin i M (by rw [← ho]; exact w))
      have hi : i < 24 := by
        rcases Nat.lt_or_ge i 24 with q | q
        · exact q
        · exact absurd (isJ_hi hw hJ q) hne
      rw [c3 i hi hne]; rfl
  exact ⟨hsub, by rw [c4, hsub]⟩
theorem od_pin {A B : Nat → Nat} {M S od n : Nat} (ho : od = oddN A B S M) (h : ∀ l, l < M → A l < n ∧ B l < n) {u : Nat} (hu : od.testBit u = true) : u < n := by
  rw [ho] at hu
  obtain ⟨l, h1, _, h3⟩ := (pinN_bit u M).mp (oddN_pin u M hu)
  have := h l h1
  omega
set_option maxRecDepth 100000 in
set_option maxHeartbeats 1000000 in
theorem c_thread (l : Launch) (g : ot_G) (ln : Nat) (ext : ot_L) (μ : ot_M) (w : Int) (hw : -2147483648 ≤ w ∧ w ≤ 2147483647)(hN : gNet (μ 1 13) (μ 9) (μ 10)) (J : Nat → Nat) (hJe : J = joN (nA (μ 9)) (nA (μ 10)) (μ 1 13).toNat) (od : Nat) (hode : od = oddN (nA (μ 9)) (nA (μ 10)) (2 ^ (μ 1 13).toNat - 1) (μ 1 13).toNat) (hG : gPin (μ 1 11) (μ 1 12) (μ 2) (μ 3)) (hset : ∀ l : Nat, (l : Int) < μ 1 13 → μ 9 (l : Int) < μ 1 12 ∧ μ 10 (l : Int) < μ 1 12) (nl : Nat) (hln : gLn ln nl ext)  : ot_C l g yX9_thread cX9_thread 2 (some .int) 5 1 4096 [.inr 0, .inl w] (LL ln ext) μ (ot_pi (fun r L2 μ2 => ∃ (ln2 : Nat) (ext2 : ot_L) (nl2 : Nat) (F G F3 : Int → Int), gLn ln2 nl2 ext2 ∧ L2 = LL ln2 ext2 ∧ μ2 = ot_uc (ot_up (ot_up (ot_up (ot_uc (ot_uc μ 42 F) 43 G) 41 4 ((knF J od 24).2.1 : Int)) 41 5 ((knF J od 24).2.2.2 : Int)) 41 6 ((knF J od 24).2.2.1 : Int)) ln2 F3 ∧ thS J od (μ 2) (μ 3) w r)) := by
  refine ot_enter (by decide) (Nat.le_of_ble_eq_true rfl) ?_
  intro p e s m args below meth c X hr
  have hM := hN.1
  have hw := hN.2.2
  have hJ0 := joN_is hw
  rw [← hJe] at hJ0
  have hkb := knF_bound (od := od) hw hJ0
  have hko := knF_od hw hJ0 hode
  have hkp := knF_par hw hJ0 hode
  refine tt_aload_n X rfl dX9_thread_0 ?_
  refine tt_getr X fX9_40 (k_0 _ _) (by decide) ⟨nofun, nofun⟩ rfl dX9_thread_1 ?_
  refine tt_vv X rfl mX9_243 (c_knot l g ln ext _ hN J hJe od hode) (k_41 _ _) ⟨_, rfl, rfl⟩ rfl rfl (Nat.le_of_ble_eq_true rfl) (by decide) (by decide) (by decide) dX9_thread_4 (fun L4 μ4 hp => ?_)
  obtain ⟨rfl, F, G, hFJ, hLs, e4⟩ := hp
  subst e4
  refine tt_iload_n X rfl dX9_thread_7 ?_
  rcases (show w < 0 ∨ 4 < w ∨ w = 0 ∨ w = 1 ∨ w = 2 ∨ w = 3 ∨ w = 4 by omega) with sw | sw | sw | sw | sw | sw | sw
  · refine tt_tabOut X 90 (by omega) dX9_thread_8 (Or.inl sw) (by decide) ?_
    refine tt_iconst X dX9_thread_90 ?_
    refine tt_iret X ⟨hr.1, hr.2.1⟩ (by decide) (by decide) dX9_thread_91 ?_
    refine ⟨ln, ext, nl, F, G, _, hln, rfl, ot_uc_self.symm, ?_⟩
    unfold thS
    rw [if_neg (by omega), if_neg (by omega), if_neg (by omega), if_neg (by omega), if_neg (by omega)]
  · refine tt_tabOut X 90 (by omega) dX9_thread_8 (Or.inr sw) (by decide) ?_
    refine tt_iconst X dX9_thread_90 ?_
    refine tt_iret X ⟨hr.1, hr.2.1⟩ (by decide) (by decide) dX9_thread_91 ?_
    refine ⟨ln, ext, nl, F, G, _, hln, rfl, ot_uc_self.symm, ?_⟩
    unfold thS
    rw [if_neg (by omega), if_neg (by omega), if_neg (by omega), if_neg (by omega), if_neg (by omega)]
  · refine tt_tabIn X 44 (by omega) dX9_thread_8 (by omega) (by omega) (by rw [sw]; rfl) (by decide) ?_
    refine tt_aload_n X rfl dX9_thread_44 ?_
    refine tt_getr X fX9_40 (k_0 _ _) (by decide) ⟨nofun, nofun⟩ rfl dX9_thread_45 ?_
    refine tt_geti X fX9_246 (k_41 _ _) (by decide) (Or.inl rfl) dX9_thread_48 ?_
    try simp (disch := decide) only [ot_rd, ot_rs, ot_rf, ot_ucd, ot_ucs]
    refine tt_iret X ⟨hr.1, hr.2.1⟩ (by decide) (by decide) dX9_thread_51 ?_
    refine ⟨ln, ext, nl, F, G, _, hln, rfl, ot_uc_self.symm, ?_⟩
    unfold thS
    rw [if_pos sw]
  · refine tt_tabIn X 52 (by omega) dX9_thread_8 (by omega) (by omega) (by rw [sw]; rfl) (by decide) ?_
    refine tt_aload_n X rfl dX9_thread_52 ?_
    refine tt_getr X fX9_40 (k_0 _ _) (by decide) ⟨nofun, nofun⟩ rfl dX9_thread_53 ?_
    refine tt_geti X fX9_246 (k_41 _ _) (by decide) (Or.inl rfl) dX9_thread_56 ?_
    try simp (disch := decide) only [ot_rd, ot_rs, ot_rf, ot_ucd, ot_ucs]
    refine tt_iconst X dX9_thread_59 ?_
    refine tt_isub X dX9_thread_60 ?_
    refine tt_iconst X dX9_thread_61 ?_
    refine tt_max X rfl mX9_249 (by omega) (Nat.le_of_ble_eq_true rfl) (by decide) (by decide) dX9_thread_62 ?_
    refine tt_iret X ⟨hr.1, hr.2.1⟩ (by decide) (by decide) dX9_thread_65 ?_
    refine ⟨ln, ext, nl, F, G, _, hln, rfl, ot_uc_self.symm, ?_⟩
    unfold thS
    rw [if_neg (by omega), if_pos sw]
  · refine tt_tabIn X 66 (by omega) dX9_thread_8 (by omega) (by omega) (by rw [sw]; rfl) (by decide) ?_
    refine tt_aload_n X rfl dX9_thread_66 ?_
    refine tt_getr X fX9_40 (k_0 _ _) (by decide) ⟨nofun, nofun⟩ rfl dX9_thread_67 ?_
    have hgo : (knF J od 24).2.2.2 ≤ 12 → (knF J od 24).2.2.1 = 1 → gOd (knF J od 24).2.2.2 (μ 2) (μ 3) G := fun h12 hp1 => ⟨h12, fun i hi => by
      rw [hko.2] at hi
      obtain ⟨u, u1, u2, u3⟩ := sel_ex 24 hi
      have hGu := hLs hp1 u u1 (by rw [hko.1]; exact u2)
      rw [hko.1, u3] at hGu
      have hup := od_pin (n := (μ 1 12).toNat) hode (fun l hl => by
        have h1 := hset l (by omega)
        have h2 := nA_eq hN (l := l) (by omega)
        omega) u2
      have hat := gPin_at hG (a := (u : Int)) (by omega) (by omega)
      rw [hGu]
      omega⟩
    refine tt_vi X rfl mX9_254 (c_shortestMore l g ln ext _ (knF J od 24).2.2.2 nl (by simp (disch := decide) only [ot_rd, ot_rs, ot_rf, ot_ucd, ot_ucs, ot_rdf]) (by simp (disch := decide) only [ot_rd, ot_rs, ot_rf, ot_ucd, ot_ucs, ot_rdf]; exact fun h6 h12 => hgo h12 (by omega)) hln (by omega) (by simp (disch := decide) only [ot_rd, ot_rs, ot_rf, ot_ucd, ot_ucs, ot_rdf]; intro _; exact hkp) (by simp (disch := decide) only [ot_rd, ot_rs, ot_rf, ot_ucd, ot_ucs, ot_rdf]; omega)) (k_41 _ _) ⟨_, rfl, rfl⟩ rfl rfl (Nat.le_of_ble_eq_true rfl) (by decide) (by decide) (by decide) dX9_thread_70 (fun z70 L70 μ70 hp => ?_)
    obtain ⟨ln2, ext2, nl2, F3, hg2, rfl, e70, hsh⟩ := hp
    subst e70
    simp (disch := decide) only [ot_rd, ot_rs, ot_rf, ot_ucd, ot_ucs, ot_rdf] at hsh
    refine tt_iret X ⟨hr.1, hr.2.1⟩ (by decide) (by decide) dX9_thread_73 ?_
    refine ⟨ln2, ext2, nl2, F, G, F3, hg2, rfl, rfl, ?_⟩
    unfold thS
    rw [if_neg (by omega), if_neg (by omega), if_pos sw]
    unfold shS at hsh ⊢
    by_cases w1 : ((knF J od 24).2.2.1 : Int) ≠ 1 ∨ 12 < (knF J od 24).2.2.2
    · rw [if_pos w1] at hsh ⊢; exact hsh
    · rw [if_neg w1] at hsh ⊢
      rw [lnD_congr (G := selI od) (G2 := G)]
      · exact hsh
      · intro i hi
        have hl2 := hLs (by omega)
        rw [hko.1] at hl2
        exact (G_sel hl2 (by omega)).symm
  · refine tt_tabIn X 74 (by omega) dX9_thread_8 (by omega) (by omega) (by rw [sw]; rfl) (by decide) ?_
    refine tt_aload_n X rfl dX9_thread_74 ?_
    refine tt_getr X fX9_40 (k_0 _ _) (by decide) ⟨nofun, nofun⟩ rfl dX9_thread_75 ?_
    refine tt_geti X fX9_258 (k_41 _ _) (by decide) (Or.inl rfl) dX9_thread_78 ?_
    try simp (disch := decide) only [ot_rd, ot_rs, ot_rf, ot_ucd, ot_ucs]
    refine tt_iret X ⟨hr.1, hr.2.1⟩ (by decide) (by decide) dX9_thread_81 ?_
    refine ⟨ln, ext, nl, F, G, _, hln, rfl, ot_uc_self.symm, ?_⟩
    unfold thS
    rw [if_neg (by omega), if_neg (by omega), if_neg (by omega), if_pos sw]
  · refine tt_tabIn X 82 (by omega) dX9_thread_8 (by omega) (by omega) (by rw [sw]; rfl) (by decide) ?_
    refine tt_aload_n X rfl dX9_thread_82 ?_
    refine tt_getr X fX9_40 (k_0 _ _) (by decide) ⟨nofun, nofun⟩ rfl dX9_thread_83 ?_
    refine tt_geti X fX9_261 (k_41 _ _) (by decide) (Or.inl rfl) dX9_thread_86 ?_
    try simp (disch := decide) only [ot_rd, ot_rs, ot_rf, ot_ucd, ot_ucs]
    refine tt_iret X ⟨hr.1, hr.2.1⟩ (by decide) (by decide) dX9_thread_89 ?_
    refine ⟨ln, ext, nl, F, G, _, hln, rfl, ot_uc_self.symm, ?_⟩
    unfold thS
    rw [if_neg (by omega), if_neg (by omega), if_neg (by omega), if_neg (by omega), if_pos sw]

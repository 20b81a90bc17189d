abbrev TR : Type := (Int × Nat) ⊕ List (Int × CL)
abbrev TS : Type := Nat × List (Int × CL)
/-- the whole text -/
def txt1 (tk vl : Nat → Int) (s : TS) (o : TR ⊕ TS) : Prop :=
  if tk s.1 = 21 then o = .inl (.inr s.2) else ∃ q, lnS tk vl s.1 (s.2.length : Int) q ∧ match q with
    | .inl f => o = .inl (.inl f)
    | .inr u => o = .inr (u.1, s.2 ++ [(tk s.1, u.2)])
theorem txt1_d {tk vl : Nat → Int} : ∀ (s : TS) (a b : TR ⊕ TS), txt1 tk vl s a → txt1 tk vl s b → a = b := by
  intro s a b h1 h2
  unfold txt1 at h1 h2
  by_cases w : tk s.1 = 21
  · rw [if_pos w] at h1 h2; rw [h1, h2]
  · rw [if_neg w] at h1 h2
    obtain ⟨q, q1, q2⟩ := h1
    obtain ⟨p, p1, p2⟩ := h2
    have := lnS_det q1 p1
    subst this
    cases q with
    | inl f => dsimp only at q2 p2; rw [q2, p2]
    | inr u => dsimp only at q2 p2; rw [q2, p2]
def tR1 (tk vl : Nat → Int) (s : TS) (r : TR) : Prop := rsl (txt1 tk vl) s r
theorem tR1_det {tk vl : Nat → Int} {s : TS} {r r2 : TR} (h1 : tR1 tk vl s r) (h2 : tR1 tk vl s r2) : r = r2 := rsl_det txt1_d h1 h2
def fl : List (Int × CL) → CL
  | [] => []
  | x :: t => x.2 ++ fl t
theorem fl_app : ∀ (a b : List (Int × CL)), fl (a ++ b) = fl a ++ fl b
  | [], b => rfl
  | x :: a, b => by show x.2 ++ fl (a ++ b) = x.2 ++ fl a ++ fl b; rw [fl_app a b, List.append_assoc]
def tkT (T : Nat → Int) (n u : Nat) : Int := tkN T n (psN T n u)
def vlT (T : Nat → Int) (n u : Nat) : Int := if tkN T n (psN T n u) = 20 then vlN T n (psN T n u) else 0
def plT (T : Nat → Int) (n u : Nat) : Int := (psN T n u : Int)
theorem tkN_rng (T : Nat → Int) (n p : Nat) : 0 ≤ tkN T n p ∧ tkN T n p ≤ 62 := by
  unfold tkN
  split
  · decide
  · split
    · split <;> omega
    · split
      · split <;> decide
      · split
        · rename_i w
          have := sg_list.mp w
          omega
        · decide
theorem vlN_rng {T : Nat → Int} {n p : Nat} (h : tkN T n p = 20) : 0 ≤ vlN T n p ∧ vlN T n p ≤ 9999 := by
  by_cases w0 : n ≤ p
  · unfold tkN at h; rw [if_pos w0] at h; omega
  · by_cases w1 : ltB (T p) = true
    · have := tk_lt (T := T) (n := n) (i := p) (by omega) w1 rfl
      rw [this] at h
      exact absurd h kw_20
    · have w1f : ltB (T p) = false := by simpa using w1
      by_cases w2 : dgB (T p) = true
      · have ht := tk_dg (T := T) (n := n) (i := p) (by omega) w1f w2 rfl
        rw [ht] at h
        have h4 : enN T n p - p ≤ 4 := by
          apply Classical.byContradiction
          intro w
          rw [if_neg w] at h
          omega
        have he : enN T n p = rnN dgB T n (p + 1) := by unfold enN; rw [w1f, if_pos w2]; rfl
        have hr := rnN_ok (P := dgB) (T := T) (n := n) (i := p + 1) (by omega)
        rw [← he] at hr
        unfold vlN
        rw [Nat.min_eq_left h4]
        have q := dvN_rng (T := T) (a := p) (enN T n p - p) h4 (fun i hi => by
          by_cases e : i = 0
          · rw [e, Nat.add_zero]; exact of_decide_eq_true w2
          · exact of_decide_eq_true (hr.2.2.1 (p + i) (by omega) (by omega)))
        have q3 : (10 ^ (enN T n p - p) : Nat) ≤ 10 ^ 4 := Nat.pow_le_pow_right (by decide) h4
        omega
      · have w2f : dgB (T p) = false := by simpa using w2
        have ht := tk_sg (T := T) (n := n) (i := p) (by omega) w1f w2f
        rw [ht] at h
        exact absurd h sg_20
/-- what the lines are in the draft -/
def lnM (σ : ot_M) (ls : List (Int × CL)) : Prop := σ 50 4 = (ls.length : Int) ∧ ∀ (i : Nat) (x : Int × CL), ls[i]? = some x → σ 52 (i : Int) = ((fl (ls.take (i + 1))).length : Int) ∧ σ 53 (i : Int) = (if x.1 = 0 then 1 else 0) ∧ (x.1 = 0 ∨ x.1 = 1)
theorem lnM_next {σ : ot_M} {ls : List (Int × CL)} {t : Int} {cs : CL} (h : lnM σ ls) (ht : t = 0 ∨ t = 1) : lnM (ot_up (ot_up (ot_up σ 53 (σ 50 4) (if t = 0 then 1 else 0)) 52 (σ 50 4) (((fl ls).length + cs.length : Nat) : Int)) 50 4 (σ 50 4 + 1)) (ls ++ [(t, cs)]) := by
  obtain ⟨h1, h2⟩ := h
  refine ⟨?_, fun i x hx => ?_⟩
  · rw [h1, List.length_append]
    simp [ot_up]
  · by_cases w : i < ls.length
    · rw [List.getElem?_append_left w] at hx
      have h3 := h2 i x hx
      have hne : (i : Int) ≠ (ls.length : Int) := by omega
      rw [List.take_append_of_le_length (by omega)]
      refine ⟨?_, ?_, h3.2.2⟩
      · rw [← h3.1, h1]; simp [ot_up, hne]
      · rw [← h3.2.1, h1]; simp [ot_up, hne]
    · rw [List.getElem?_append_right (by omega)] at hx
      have hi : i - ls.length = 0 := by
        apply Classical.byContradiction
        intro w2
        rw [List.getElem?_eq_none (by simp; omega)] at hx
        cases hx
      rw [hi] at hx
      cases hx
      have hil : i = ls.length := by omega
      subst hil
      rw [List.take_of_length_le (by simp), fl_app]
      refine ⟨?_, ?_, ht⟩
      · rw [h1]
        show _ = ((fl ls ++ (cs ++ [])).length : Int)
        rw [List.append_nil, List.length_append]
        simp [ot_up]
      · rw [h1]; simp [ot_up]
def rdI (tk vl pl : Nat → Int) (K : Nat) (μb : ot_M) (i : Nat) (σ μc : ot_M) (r : (Int × Nat) ⊕ TS) : Prop := (∀ k, k ≠ 50 → k ≠ 52 → k ≠ 53 → μc k = μb k) ∧ i ≤ 300 ∧ match r with
  | .inl f => tR1 tk vl (0, []) (.inl f) ∧ stC μc tk pl K 0 (fun _ => 0) (.inl f) σ
  | .inr q => (∀ x, tR1 tk vl (0, []) x ↔ tR1 tk vl q x) ∧ stC μc tk pl K 0 (fun _ => 0) (.inr (q.1, fl q.2)) σ ∧ lnM μc q.2 ∧ (fl q.2).length ≤ q.1 ∧ 2 * i ≤ q.1 ∧ q.2.length ≤ 16
def b53 (σ : ot_M) : Prop := ∀ i, 0 ≤ i → i < 16 → σ 53 i = 0 ∨ σ 53 i = 1
theorem b53_next {tk pl : Nat → Int} {K : Nat} {F0 : Int → Int} {μc μd σ2 : ot_M} {j : Nat} {A : CL} {o : RS} (h : b53 μc) (hs : lnQ tk pl K F0 μc μd j A o σ2) : b53 μd := by
  intro i i1 i2
  have h1 := h i i1 i2
  cases o with
  | inl f =>
    rcases hs.2.2.2 i with q | q | q
    · rw [q]; exact h1
    · exact Or.inl q
    · exact Or.inr q
  | inr u =>
    rw [hs.1]
    rcases v53 (μ := μc) (n := μc 50 4) (t := μc 50 4 + 1) (a := μc 50 4) (b := ((A.length + u.2.length : Nat) : Int)) (tj := tk j) rfl i with q | q | q
    · rw [q]; exact h1
    · exact Or.inl q
    · exact Or.inr q
theorem gTk_same {μ μc : ot_M} {K : Nat} {tk vl pl : Nat → Int} (hg : gTk μ K tk vl pl) (h : ∀ k, k ≠ 50 → k ≠ 52 → k ≠ 53 → μc k = μ k) : gTk μc K tk vl pl := by
  unfold gTk
  rw [h 49 (by decide) (by decide) (by decide), h 55 (by decide) (by decide) (by decide), h 56 (by decide) (by decide) (by decide), h 57 (by decide) (by decide) (by decide)]
  exact hg
theorem rdI_next {tk vl pl : Nat → Int} {K : Nat} {μb σ2 μc : ot_M} {i : Nat} {q : TS} {o : RS} {μd : ot_M} (hK : K ≤ 400) (hb : ∀ k, k ≠ 50 → k ≠ 52 → k ≠ 53 → μc k = μb k) (hi : i ≤ 300) (h1 : ∀ x, tR1 tk vl (0, []) x ↔ tR1 tk vl q x) (hm : lnM μc q.2) (hl : (fl q.2).length ≤ q.1) (h2 : 2 * i ≤ q.1) (hqK : q.1 ≤ K) (hne : tk q.1 ≠ 21) (ho : lnS tk vl q.1 (μc 50 4) o) (hs : lnQ tk pl K (fun _ => 0) μc μd q.1 (fl q.2) o σ2) : ∃ r2, rdI tk vl pl K μb (i + 1) σ2 μd r2 := by
  rw [hm.1] at ho
  have hst : txt1 tk vl q (match o with
      | .inl f => .inl (.inl f)
      | .inr u => .inr (u.1, q.2 ++ [(tk q.1, u.2)])) := by
    unfold txt1
    rw [if_neg hne]
    refine ⟨o, ho, ?_⟩
    cases o with
    | inl f => rfl
    | inr u => rfl
  cases o with
  | inl f =>
    obtain ⟨s1, s2, s3, s4⟩ := hs
    exact ⟨.inl f, fun k a1 a2 a3 => (s2 k a1 a2 a3).trans (hb k a1 a2 a3), by omega, (h1 _).mpr ((rsl_done txt1_d hst _).mpr rfl), s1⟩
  | inr u =>
    obtain ⟨s1, s2, s3⟩ := hs
    have htk : (tk q.1 = 0 ∨ tk q.1 = 1) ∧ ¬ 16 ≤ (q.2.length : Int) := by
      unfold lnS at ho
      by_cases w1 : tk q.1 ≠ 0 ∧ tk q.1 ≠ 1
      · rw [if_pos w1] at ho; cases ho
      · rw [if_neg w1] at ho
        by_cases w2 : 16 ≤ (q.2.length : Int)
        · rw [if_pos w2] at ho; cases ho
        · exact ⟨by omega, w2⟩
    refine ⟨.inr (u.1, q.2 ++ [(tk q.1, u.2)]), fun k a1 a2 a3 => ?_, by omega, fun x => ?_, ?_, ?_, ?_, ?_, ?_⟩
    · rw [s1, ← hb k a1 a2 a3]
      funext i2
      simp [ot_up, a1, a2, a3]
    · exact (h1 x).trans (rsl_step txt1_d hst x)
    · show stC μd tk pl K 0 _ (.inr (u.1, fl (q.2 ++ [(tk q.1, u.2)]))) σ2
      rw [fl_app]
      show stC μd tk pl K 0 _ (.inr (u.1, fl q.2 ++ (u.2 ++ []))) σ2
      rw [List.append_nil]
      exact s2
    · rw [s1]
      exact lnM_next hm htk.1
    · show (fl (q.2 ++ [(tk q.1, u.2)])).length ≤ u.1
      rw [fl_app, List.length_append]
      show (fl q.2).length + (u.2 ++ []).length ≤ u.1
      rw [List.append_nil]
      omega
    · show 2 * (i + 1) ≤ u.1
      omega
    · show (q.2 ++ [(tk q.1, u.2)]).length ≤ 16
      rw [List.length_append]
      show q.2.length + 1 ≤ 16
      omega
theorem tk_ne {T : Nat → Int} {n p : Nat} (hp : p < n) : tkN T n p ≠ 21 := by
  by_cases w1 : ltB (T p) = true
  · rw [tk_lt hp w1 rfl]; split <;> omega
  · have w1f : ltB (T p) = false := by simpa using w1
    by_cases w2 : dgB (T p) = true
    · rw [tk_dg hp w1f w2 rfl]; split <;> decide
    · have w2f : dgB (T p) = false := by simpa using w2
      rw [tk_sg hp w1f w2f]
      split
      · rename_i w
        have := sg_list.mp w
        omega
      · decide
theorem rdI_8 {tk vl pl : Nat → Int} {K : Nat} {μb : ot_M} {i : Nat} {σ μc : ot_M} {r : (Int × Nat) ⊕ TS} (h : rdI tk vl pl K μb i σ μc r) : 0 ≤ σ 49 8 ∧ σ 49 8 ≤ 3 := by
  cases r with
  | inl f => exact stC_8 h.2.2.2
  | inr q => exact stC_8 h.2.2.2.1
set_option maxRecDepth 100000 in
set_option maxHeartbeats 1000000 in
theorem c_read (l : Launch) (g : ot_G) (ln : Nat) (ext : ot_L) (μ : ot_M) (hgz : ot_gz g) (hb53 : b53 μ) (T : Nat → Int) (n : Nat) (hT : ∀ k, k < n → μ 58 (k : Int) = T k) (hT2 : ∀ k, 0 ≤ T k ∧ T k ≤ 255) (hn : n ≤ 400)  : ot_C l g yX4_read cX4_read 4 none 33 0 0 [.inr 49, .inr 58, .inl (n : Int)] (LL ln ext) μ (ot_pv (fun L2 μ2 => L2 = LL ln ext ∧ (∀ k, k < 49 ∨ 57 < k → μ2 k = μ k) ∧ b53 μ2 ∧ ∃ tr : TR, tR1 (tkT T n) (vlT T n) (0, []) tr ∧ match tr with | .inl f => μ2 49 8 = f.1 ∧ (1 ≤ f.1 ∧ f.1 ≤ 3) ∧ μ2 49 9 = (plT T n) f.2 | .inr ls => μ2 49 8 = 0 ∧ μ2 49 9 = -1 ∧ ls.length ≤ 16 ∧ lnM μ2 ls ∧ (fl ls).length ≤ 400 ∧ cdF 0 (fl ls) (μ2 51))) := by
  refine ot_enter (by decide) (Nat.le_of_ble_eq_true rfl) ?_
  intro p e s m args below meth c X hr
  refine tt_aload_n X rfl dX4_read_0 ?_
  refine tt_aload_n X rfl dX4_read_1 ?_
  refine tt_iload_n X rfl dX4_read_2 ?_
  refine tt_sipush X (by decide) dX4_read_3 ?_
  refine tt_min X rfl mX4_28 (by omega) (Nat.le_of_ble_eq_true rfl) (by decide) (by decide) dX4_read_6 ?_
  refine tt_top (y := (n : Int)) (by omega) ?_
  refine tt_vv X rfl mX4_34 (c_split l g ln ext _ hgz T n hT hT2 hn) (k_49 _ _) ⟨_, rfl, rfl⟩ rfl rfl (Nat.le_of_ble_eq_true rfl) (by decide) (by decide) (by decide) dX4_read_9 (fun L9 μ9 hp => ?_)
  obtain ⟨rfl, K, A, B, C, hKn, hpK, hpl, htok, e9⟩ := hp
  subst e9
  refine tt_aload_n X rfl dX4_read_12 ?_
  refine tt_getr X fX4_12 (k_49 _ _) (by decide) ⟨nofun, nofun⟩ rfl dX4_read_13 ?_
  refine tt_iconst X dX4_read_16 ?_
  refine tt_puti X fX4_38 kc_3 (k_50 _ _) (by decide) (fun q hq => by cases hq; rfl) rfl dX4_read_17 ?_
  refine tt_aload_n X rfl dX4_read_20 ?_
  refine tt_iconst X dX4_read_21 ?_
  refine tt_puti X fX4_42 kc_4 (k_49 _ _) (by decide) (fun q hq => by cases hq; rfl) rfl dX4_read_22 ?_
  refine tt_aload_n X rfl dX4_read_25 ?_
  refine tt_iconst X dX4_read_26 ?_
  refine tt_puti X fX4_45 kc_4 (k_49 _ _) (by decide) (fun q hq => by cases hq; rfl) rfl dX4_read_27 ?_
  refine tt_aload_n X rfl dX4_read_30 ?_
  refine tt_iconst X dX4_read_31 ?_
  refine tt_puti X fX4_48 kc_4 (k_49 _ _) (by decide) (fun q hq => by cases hq; rfl) rfl dX4_read_32 ?_
  refine tt_aload_n X rfl dX4_read_35 ?_
  refine tt_iconst X dX4_read_36 ?_
  refine tt_puti X fX4_51 kc_4 (k_49 _ _) (by decide) (fun q hq => by cases hq; rfl) rfl dX4_read_37 ?_
  refine tt_aload_n X rfl dX4_read_40 ?_
  refine tt_aload_n X rfl dX4_read_41 ?_
  refine tt_getr X fX4_18 (k_49 _ _) (by decide) ⟨nofun, nofun⟩ rfl dX4_read_42 ?_
  refine tt_iconst X dX4_read_45 ?_
  refine tt_iaload X (k_55 _ _) (by first | omega | (simp (disch := decide) only [ot_rd, ot_rs, ot_rf, ot_ucd, ot_ucs]; omega)) dX4_read_46 ?_
  try simp (disch := decide) only [ot_rd, ot_rs, ot_rf, ot_ucd, ot_ucs]
  refine tt_puti X fX4_54 kc_4 (k_49 _ _) (by decide) (fun q hq => by cases hq; rfl) rfl dX4_read_47 ?_
  refine tt_iconst X dX4_read_50 ?_
  refine tt_istore_n X dX4_read_51 (by decide) ?_
  obtain ⟨μs, hμs⟩ : ∃ μs : ot_M, μs = ot_up (ot_up (ot_uc (ot_uc (ot_uc μ 55 A) 56 B) 57 C) 49 4 ((K + 1 : Nat) : Int)) 50 4 0 := ⟨_, rfl⟩
  have hgs : gTk μs K (tkT T n) (vlT T n) (plT T n) := by
    rw [hμs]
    refine ⟨by omega, by simp [ot_up, ot_uc], fun u hu => ?_, ?_, fun u hu => ?_, fun u => tkN_rng T n _, fun u => ?_⟩
    · have h := htok u hu
      refine ⟨?_, ?_, fun h20 => ?_⟩
      · rw [show tkT T n u = tkN T n (psN T n u) from rfl, ← h.1]; simp [ot_up, ot_uc]
      · rw [show plT T n u = (psN T n u : Int) from rfl, ← h.2.1]; simp [ot_up, ot_uc]
      · have h3 := h.2.2 h20
        have : vlT T n u = vlN T n (psN T n u) := if_pos h20
        rw [this, ← h3]; simp [ot_up, ot_uc]
    · show tkN T n (psN T n K) = 21
      rw [hpK]; unfold tkN; rw [if_pos (Nat.le_refl _)]
    · show tkN T n (psN T n u) ≠ 21
      exact tk_ne (hpl u hu)
    · show 0 ≤ vlT T n u ∧ vlT T n u ≤ 9999
      unfold vlT
      split
      · rename_i w; exact vlN_rng w
      · decide
  refine tt_mem (μ' := rdM μs 0 (tkT T n 0) 0 0 (-1) (μs 51)) (by
    have h0 := (htok 0 (Nat.zero_le _)).1
    rw [hμs]
    refine rdM_ext (fun k w1 w2 => ?_) (fun i w5 w6 w7 w8 w9 => ?_) ?_ ?_ ?_ ?_ ?_ ?_
    · funext i2; by_cases w3 : k = 50 <;> by_cases w4 : i2 = 4 <;> simp [ot_up, ot_uc, w1, w3, w4]
    · simp [ot_up, ot_uc, w5, w6, w7, w8, w9]
    · simp [ot_up, ot_uc]
    · rw [show tkT T n 0 = tkN T n (psN T n 0) from rfl, ← h0]; simp [ot_up, ot_uc]
    · simp [ot_up, ot_uc]
    · simp [ot_up, ot_uc]
    · simp [ot_up, ot_uc]
    · funext i2; simp [ot_up, ot_uc]) ?_
  have hI0 : rdI (tkT T n) (vlT T n) (plT T n) K μs 0 (rdM μs 0 (tkT T n 0) 0 0 (-1) (μs 51)) μs (.inr (0, [])) := ⟨fun _ _ _ _ => rfl, by decide, fun _ => Iff.rfl, ⟨μs 51, rfl, Nat.zero_le _, by decide, (fun i x hx => by cases hx), fun i a1 a2 => by omega⟩, ⟨by rw [hμs]; simp [ot_up], fun i x hx => by cases hx⟩, Nat.le_refl _, Nat.le_refl _, by decide⟩
  refine tt_loc [(0, _), (3, _)] ⟨rfl, rfl, trivial⟩ ?_
  refine tt_loop (α := Nat × ot_M × ot_M × ((Int × Nat) ⊕ TS)) (fun ((i, σ, μc, r1)) => 400 - i) (fun ((i, σ, μc, r1)) => rdI (tkT T n) (vlT T n) (plT T n) K μs i σ μc r1 ∧ b53 μc) (fun ((i, σ, μc, r1)) => σ) (fun ((i, σ, μc, r1)) => [(0, .inr 49), (3, .inl (i : Int))]) (0, _, μs, .inr (0, [])) ⟨hI0, by rw [hμs]; intro i i1 i2; have := hb53 i i1 i2; simpa [ot_up, ot_uc] using this⟩ ?_
  intro a hI ih
  obtain ⟨i, σ, μc, r1⟩ := a
  try dsimp only at hI ih ⊢
  replace hI : rdI (tkT T n) (vlT T n) (plT T n) K μs i σ μc r1 ∧ b53 μc := hI
  have hbc := hI.2
  replace hI := hI.1
  refine tt_iload_n X rfl dX4_read_52 ?_
  refine tt_sipush X (by decide) dX4_read_53 ?_
  refine tt_icmp_gt X 85 (by have := hI.2.1; omega) dX4_read_56 (by decide) (fun b56 => ?_) (fun b56 => ?_)
  · exact absurd b56 (by have := hI.2.1; omega)
  · refine tt_aload_n X rfl dX4_read_59 ?_
    refine tt_geti X fX4_45 (k_49 _ _) (by decide) (Or.inl rfl) dX4_read_60 ?_
    try simp (disch := decide) only [ot_rd, ot_rs, ot_rf, ot_ucd, ot_ucs]
    
    refine tt_if_ne X 85 (by have := rdI_8 hI; omega) dX4_read_63 (by decide) (fun b63 => ?_) (fun b63 => ?_)
    · refine tt_vret X ⟨hr.1, hr.2.1⟩ (by decide) (by decide) dX4_read_85 ?_
      have hout : ∀ k, k < 49 ∨ 57 < k → σ k = μ k := fun k hk => by
        have e1 : σ k = μc k := by
          cases r1 with
          | inl f => exact stC_o hI.2.2.2 (by omega) (by omega)
          | inr q => exact stC_o hI.2.2.2.1 (by omega) (by omega)
        rw [e1, hI.1 k (by omega) (by omega) (by omega), hμs]
        have n1 : k ≠ 50 := by omega
        have n2 : k ≠ 49 := by omega
        have n3 : k ≠ 55 := by omega
        have n4 : k ≠ 56 := by omega
        have n5 : k ≠ 57 := by omega
        funext i2
        simp [ot_up, ot_uc, n1, n2, n3, n4, n5]
      have hob53 : b53 σ := by
        have e1 : σ 53 = μc 53 := by
          cases r1 with
          | inl f => exact stC_o hI.2.2.2 (by decide) (by decide)
          | inr q => exact stC_o hI.2.2.2.1 (by decide) (by decide)
        unfold b53
        rw [e1]
        exact hbc
      refine ⟨rfl, hout, hob53, ?_⟩
      cases r1 with
      | inl f =>
        obtain ⟨t1, c1, F1, e1, _, _, hf1⟩ := hI.2.2
        exact ⟨.inl f, t1, by rw [e1, rdM_8], hf1, by rw [e1, rdM_9]⟩
      | inr q2 =>
        obtain ⟨hh1, hst, hlm, hfl, h2i, h16⟩ := hI.2.2
        have h21 : tkT T n q2.1 = 21 := by
          have h8 := (stC_at hst).2.2
          first
            | (have hqq := Sum.inr.inj hq
               subst hqq
               exact b72)
            | exact absurd h8 b63
        refine ⟨.inr q2.2, (hh1 _).mpr ((rsl_done txt1_d (by unfold txt1; rw [if_pos h21]) _).mpr rfl), ?_⟩
        have hob : ∀ k, k ≠ 49 → k ≠ 51 → σ k = μc k := fun k a b => stC_o hst a b
        obtain ⟨F1, e1, _, hc1, hcd1, _⟩ := hst
        refine ⟨by rw [e1, rdM_8], by rw [e1, rdM_9], h16, ?_, ?_, ?_⟩
        · unfold lnM
          rw [hob 50 (by decide) (by decide), hob 52 (by decide) (by decide), hob 53 (by decide) (by decide)]
          exact hlm
        · have : 0 + (fl q2.2).length ≤ 400 := hc1
          omega
        · rw [e1, rdM_51]
          exact hcd1
    · have hq : ∃ q, r1 = .inr q := by
        cases r1 with
        | inl f =>
          obtain ⟨c1, F1, e1, _, _, hf1⟩ := hI.2.2.2
          have : σ 49 8 = f.1 := by rw [e1, rdM_8]
          omega
        | inr q => exact ⟨q, rfl⟩
      obtain ⟨q, hq⟩ := hq
      have hI5 := hI
      rw [hq] at hI5
      obtain ⟨hh1, hst, hlm, hfl, h2i, h16⟩ := hI5.2.2
      have hqK := (stC_at hst).2.1
      have htr := tkN_rng T n (psN T n q.1)
      replace hqK : q.1 ≤ K := hqK
      refine tt_aload_n X rfl dX4_read_66 ?_
      refine tt_geti X fX4_54 (k_49 _ _) (by decide) (Or.inl rfl) dX4_read_67 ?_
      try simp (disch := decide) only [ot_rd, ot_rs, ot_rf, ot_ucd, ot_ucs]
      refine tt_top (y := tkN T n (psN T n q.1)) (stC_tok hst) ?_
      refine tt_bipush X (by decide) dX4_read_70 ?_
      refine tt_icmp_eq X 85 (by first | omega | (simp (disch := decide) only [ot_rd, ot_rs, ot_rf, ot_ucd, ot_ucs]; omega)) dX4_read_72 (by decide) (fun b72 => ?_) (fun b72 => ?_)
      · refine tt_vret X ⟨hr.1, hr.2.1⟩ (by decide) (by decide) dX4_read_85 ?_
        have hout : ∀ k, k < 49 ∨ 57 < k → σ k = μ k := fun k hk => by
          have e1 : σ k = μc k := by
            cases r1 with
            | inl f => exact stC_o hI.2.2.2 (by omega) (by omega)
            | inr q => exact stC_o hI.2.2.2.1 (by omega) (by omega)
          rw [e1, hI.1 k (by omega) (by omega) (by omega), hμs]
          have n1 : k ≠ 50 := by omega
          have n2 : k ≠ 49 := by omega
          have n3 : k ≠ 55 := by omega
          have n4 : k ≠ 56 := by omega
          have n5 : k ≠ 57 := by omega
          funext i2
          simp [ot_up, ot_uc, n1, n2, n3, n4, n5]
        have hob53 : b53 σ := by
          have e1 : σ 53 = μc 53 := by
            cases r1 with
            | inl f => exact stC_o hI.2.2.2 (by decide) (by decide)
            | inr q => exact stC_o hI.2.2.2.1 (by decide) (by decide)
          unfold b53
          rw [e1]
          exact hbc
        refine ⟨rfl, hout, hob53, ?_⟩
        cases r1 with
        | inl f =>
          obtain ⟨t1, c1, F1, e1, _, _, hf1⟩ := hI.2.2
          exact ⟨.inl f, t1, by rw [e1, rdM_8], hf1, by rw [e1, rdM_9]⟩
        | inr q2 =>
          obtain ⟨hh1, hst, hlm, hfl, h2i, h16⟩ := hI.2.2
          have h21 : tkT T n q2.1 = 21 := by
            have h8 := (stC_at hst).2.2
            first
              | (have hqq := Sum.inr.inj hq
                 subst hqq
                 exact b72)
              | exact absurd h8 b63
          refine ⟨.inr q2.2, (hh1 _).mpr ((rsl_done txt1_d (by unfold txt1; rw [if_pos h21]) _).mpr rfl), ?_⟩
          have hob : ∀ k, k ≠ 49 → k ≠ 51 → σ k = μc k := fun k a b => stC_o hst a b
          obtain ⟨F1, e1, _, hc1, hcd1, _⟩ := hst
          refine ⟨by rw [e1, rdM_8], by rw [e1, rdM_9], h16, ?_, ?_, ?_⟩
          · unfold lnM
            rw [hob 50 (by decide) (by decide), hob 52 (by decide) (by decide), hob 53 (by decide) (by decide)]
            exact hlm
          · have : 0 + (fl q2.2).length ≤ 400 := hc1
            omega
          · rw [e1, rdM_51]
            exact hcd1
      · have hne76 : tkT T n q.1 ≠ 21 := b72
        refine tt_aload_n X rfl dX4_read_75 ?_
        refine tt_vv X rfl mX4_57 (c_readLine l g ln ext _ μc (tkT T n) (vlT T n) (plT T n) K (fun _ => 0) (gTk_same hgs hI.1) q.1 (fl q.2) hst (by rw [hlm.1]; omega) hfl hne76) (k_49 _ _) ⟨_, rfl, rfl⟩ rfl rfl (Nat.le_of_ble_eq_true rfl) (by decide) (by decide) (by decide) dX4_read_76 (fun L76 μ76 hp => ?_)
        obtain ⟨rfl, o, μd, ho, hso⟩ := hp
        obtain ⟨r2, hr2⟩ := rdI_next (by omega) hI.1 hI.2.1 hh1 hlm hfl h2i hqK hne76 ho hso
        refine tt_iinc X dX4_read_79 rfl (by decide) ?_
        refine tt_goto X 52 dX4_read_82 (by decide) ?_
        refine tt_loc [(0, _), (3, _)] ⟨rfl, rfl, trivial⟩ ?_
        exact ih (i + 1, _, _, r2) ⟨hr2, b53_next hbc hso⟩ (by have := hI.2.1; show 400 - (i + 1) < 400 - i; omega)

theorem typ_cg {op arg op2 arg2 : Int → Int} {a : Int} : ∀ n : Nat, (∀ i, a ≤ i → i < a + (n : Int) → op2 i = op i ∧ arg2 i = arg i) → typ op2 arg2 a n = typ op arg a n
  | 0, _ => rfl
  | n + 1, h => by
    have ih := typ_cg (op := op) (arg := arg) (op2 := op2) (arg2 := arg2) (a := a) n (fun i i1 i2 => h i i1 (by omega))
    have h1 := h (a + (n : Int)) (by omega) (by omega)
    show (typ op2 arg2 a n).bind (ty1 (op2 (a + (n : Int))) (arg2 (a + (n : Int)))) = (typ op arg a n).bind (ty1 (op (a + (n : Int))) (arg (a + (n : Int))))
    rw [ih, h1.1, h1.2]
theorem sOk_cg {op arg op2 arg2 : Int → Int} {a b : Int} (h : sOk op arg a b) (ho : ∀ i, 0 ≤ i → i < 400 → op2 i = op i ∧ arg2 i = arg i) : sOk op2 arg2 a b := by
  obtain ⟨h1, h2⟩ := h
  refine ⟨h1, ?_⟩
  rcases h2 with w | w
  · exact Or.inl w
  · right
    rw [typ_cg (op := op) (arg := arg) _ (fun i i1 i2 => ho i (by omega) (by omega))]
    exact w
theorem gLaw_cg {cd en vd op arg lw lf lt cd2 en2 vd2 op2 arg2 lw2 lf2 lt2 : Int → Int} {m : Int} (h : gLaw cd en vd m op arg lw lf lt) (hc : ∀ i, 0 ≤ i → i < 400 → cd2 i = cd i) (hl : ∀ l, 0 ≤ l → l < 16 → en2 l = en l ∧ vd2 l = vd l ∧ lw2 l = lw l ∧ lf2 l = lf l ∧ lt2 l = lt l) (ho : ∀ i, 0 ≤ i → i < 400 → op2 i = op i ∧ arg2 i = arg i) : gLaw cd2 en2 vd2 m op2 arg2 lw2 lf2 lt2 := by
  obtain ⟨hm, h⟩ := h
  refine ⟨hm, fun l l1 l2 => ?_⟩
  obtain ⟨b1, b2, b3, b4, b5, b6⟩ := h l l1 l2
  obtain ⟨c1, c2, c3, c4, c5⟩ := hl l l1 (by omega)
  rw [c1, c2, c3, c4, c5]
  refine ⟨?_, sOk_cg b2 ho, b3, b4, b5, fun i i1 i2 => ?_⟩
  · rw [b1]
    by_cases w : l = 0
    · rw [if_pos w, if_pos w]
    · rw [if_neg w, if_neg w, (hl (l - 1) (by omega) (by omega)).2.2.2.2]
  · have hr := b2.1
    rw [hc i (by omega) (by omega), (ho i (by omega) (by omega)).1, (ho i (by omega) (by omega)).2]
    exact b6 i i1 i2
theorem okS_cg {S n m : Int} {px py wt we sh rw0 ct sA sB tl px2 py2 wt2 we2 sh2 rw2 ct2 sA2 sB2 tl2 : Int → Int} (h : okS S n m px py wt we sh rw0 ct sA sB tl) (h1 : ∀ i, 0 ≤ i → i < 24 → px2 i = px i ∧ py2 i = py i) (h2 : ∀ i, 0 ≤ i → i < 256 → wt2 i = wt i) (h3 : ∀ i, 0 ≤ i → i < 64 → we2 i = we i ∧ tl2 i = tl i) (h4 : ∀ i, 0 ≤ i → i < 3 → sh2 i = sh i ∧ ct2 i = ct i) (h5 : ∀ i, 0 ≤ i → i < 360 → rw2 i = rw0 i) (h6 : ∀ i, 0 ≤ i → i < 20 → sA2 i = sA i ∧ sB2 i = sB i) : okS S n m px2 py2 wt2 we2 sh2 rw2 ct2 sA2 sB2 tl2 := by
  obtain ⟨⟨p1, p2, p3, p4⟩, q, r, s, t, ⟨u1, u2, u3, u4⟩, v, w⟩ := h
  have e6 : ∀ l : Nat, (l : Int) < m → sA2 (l : Int) = sA (l : Int) ∧ sB2 (l : Int) = sB (l : Int) := fun l hl => h6 l (by omega) (by omega)
  have e6n : ∀ l : Nat, l < m.toNat → nA sA2 l = nA sA l ∧ nA sB2 l = nA sB l := fun l hl => by
    have := e6 l (by omega)
    unfold nA
    rw [this.1, this.2]
    exact ⟨rfl, rfl⟩
  refine ⟨⟨p1, p2, fun i i1 i2 => ?_, fun i j i1 i2 j1 j2 ex ey => ?_⟩, fun t1 a1 a2 => ?_, fun t1 a1 a2 => ?_, fun k k1 k2 => ?_, fun p k c1 c2 c3 c4 => ?_, ⟨u1, fun l hl => ?_, fun l hl => ?_, fun l k hlk hk => ?_⟩, fun l hl => ?_, fun k k1 k2 => ?_⟩
  · rw [(h1 i i1 (by omega)).1, (h1 i i1 (by omega)).2]; exact p3 i i1 i2
  · rw [(h1 i i1 (by omega)).1, (h1 j j1 (by omega)).1] at ex
    rw [(h1 i i1 (by omega)).2, (h1 j j1 (by omega)).2] at ey
    exact p4 i j i1 i2 j1 j2 ex ey
  · obtain ⟨b1, b2, b3⟩ := q t1 a1 a2
    rw [(h4 t1 a1 a2).2]
    refine ⟨b1, fun i i1 i2 => ?_, fun i i1 i2 => ?_⟩
    · rw [h5 (120 * t1 + i) (by omega) (by omega)]; exact b2 i i1 i2
    · rw [h5 (120 * t1 + i) (by omega) (by omega), h5 (120 * t1 + i + 1) (by omega) (by omega)]; exact b3 i i1 i2
  · rw [(h4 t1 a1 a2).1]; exact r t1 a1 a2
  · rw [(h3 k k1 k2).1]; exact s k k1 k2
  · rw [h2 (64 * p + k) (by omega) (by omega)]; exact t p k c1 c2 c3 c4
  · rw [(e6 l hl).1, (e6 l hl).2]; exact u2 l hl
  · rw [(e6n l hl).1, (e6n l hl).2]; exact u3 l hl
  · rw [(e6n l (by omega)).1, (e6n l (by omega)).2, (e6n k hk).1, (e6n k hk).2]; exact u4 l k hlk hk
  · rw [(e6 l hl).1, (e6 l hl).2]; exact v l hl
  · rw [(h3 k k1 k2).2]; exact w k k1 k2
theorem fl_take_le (ls : List (Int × CL)) : ∀ i, (fl (ls.take i)).length ≤ (fl ls).length := fun i => by
  have h := fl_app (ls.take i) (ls.drop i)
  rw [List.take_append_drop] at h
  rw [h, List.length_append]
  omega
theorem fl_at {ls : List (Int × CL)} {i : Nat} {x : Int × CL} (h : ls[i]? = some x) : fl (ls.take (i + 1)) = fl (ls.take i) ++ x.2 ∧ ∀ k, k < x.2.length → (fl ls)[(fl (ls.take i)).length + k]? = x.2[k]? := by
  obtain ⟨hil, hx⟩ := List.getElem?_eq_some_iff.mp h
  have e1 : ls.take (i + 1) = ls.take i ++ [x] := by rw [List.take_succ_eq_append_getElem hil, hx]
  have e2 : fl (ls.take (i + 1)) = fl (ls.take i) ++ x.2 := by
    rw [e1, fl_app]
    show fl (ls.take i) ++ (x.2 ++ []) = _
    rw [List.append_nil]
  refine ⟨e2, fun k hk => ?_⟩
  have h3 := fl_app (ls.take (i + 1)) (ls.drop (i + 1))
  rw [List.take_append_drop, e2, List.append_assoc] at h3
  rw [h3, List.getElem?_append_right (by omega), Nat.add_sub_cancel_left, List.getElem?_append_left hk]
/-- the lines that were read, in both -/
theorem gLaw_ls {T : Nat → Int} {n : Nat} {ls : List (Int × CL)} {cd en vd op arg lw lf lt : Int → Int} (ht : tR1 (tkT T n) (vlT T n) (0, []) (.inr ls)) (h16 : ls.length ≤ 16) (h400 : (fl ls).length ≤ 400) (hcd : cdF 0 (fl ls) cd) (hen : ∀ (i : Nat) (x : Int × CL), ls[i]? = some x → en (i : Int) = ((fl (ls.take (i + 1))).length : Int) ∧ vd (i : Int) = (if x.1 = 0 then 1 else 0) ∧ (x.1 = 0 ∨ x.1 = 1)) (hlw : ∀ (i : Nat) (x : Int × CL), ls[i]? = some x → lw (i : Int) = x.1 ∧ lf (i : Int) = ((fl (ls.take i)).length : Int) ∧ lt (i : Int) = ((fl (ls.take (i + 1))).length : Int) ∧ (x.1 = 0 ∨ x.1 = 1)) (hop : ∀ (i : Nat) (x : Int × Int), (fl ls)[i]? = some x → op (i : Int) = x.1 ∧ arg (i : Int) = x.2) : gLaw cd en vd (ls.length : Int) op arg lw lf lt := by
  refine ⟨by omega, fun l l1 l2 => ?_⟩
  obtain ⟨i, hi⟩ : ∃ i : Nat, l = (i : Int) := ⟨l.toNat, by omega⟩
  subst hi
  have hil : i < ls.length := by omega
  have hx : ls[i]? = some ls[i] := List.getElem?_eq_getElem hil
  obtain ⟨a1, a2, a3⟩ := hen i _ hx
  obtain ⟨b1, b2, b3, b4⟩ := hlw i _ hx
  obtain ⟨f1, f2⟩ := fl_at hx
  have hle := fl_take_le ls (i + 1)
  have hlen : (fl (ls.take (i + 1))).length = (fl (ls.take i)).length + ls[i].2.length := by rw [f1, List.length_append]
  refine ⟨?_, ⟨?_, ?_⟩, ?_, ?_, ?_, fun j j1 j2 => ?_⟩
  · rw [b2]
    by_cases w : (i : Int) = 0
    · rw [if_pos w, show i = 0 by omega, List.take_zero]; rfl
    · rw [if_neg w]
      have hx2 : ls[i - 1]? = some ls[i - 1] := List.getElem?_eq_getElem (by omega)
      have := (hlw (i - 1) _ hx2).2.2.1
      rw [show (i : Int) - 1 = ((i - 1 : Nat) : Int) by omega, this, show i - 1 + 1 = i by omega]
  · rw [b2, b3]; omega
  · rw [b2, b3]
    rcases tR_ty (vlT_rng T n) ht ls[i] (List.getElem_mem hil) with w | w
    · left
      rw [hlen, w]
      rfl
    · right
      rw [show (((fl (ls.take (i + 1))).length : Int) - ((fl (ls.take i)).length : Int)).toNat = ls[i].2.length by omega, typ_tyW ls[i].2 ls[i].2.length (Nat.le_refl _) (fun k x hk => ?_), List.take_length]
      · exact w
      · have hkl : k < ls[i].2.length := (List.getElem?_eq_some_iff.mp hk).1
        have h3 := f2 k hkl
        rw [hk] at h3
        have h4 := hop _ x h3
        rw [show (((fl (ls.take i)).length : Int) + (k : Int)) = (((fl (ls.take i)).length + k : Nat) : Int) by omega]
        exact h4
  · rw [a1, b3]
  · rw [a2, b1]
  · rw [b1]; exact b4
  · rw [b2] at j1
    rw [b3] at j2
    obtain ⟨q, hq⟩ : ∃ q : Nat, j = (q : Int) := ⟨j.toNat, by omega⟩
    subst hq
    have hql : q < (fl ls).length := by omega
    have hy : (fl ls)[q]? = some (fl ls)[q] := List.getElem?_eq_getElem hql
    have h5 := hcd q _ hy
    rw [Nat.zero_add] at h5
    have h6 := hop q _ hy
    rw [h5, h6.1, h6.2]
theorem v_text {μ μ1 μ2 : ot_M} {r1 r2 : Int} {T : Nat → Int} {n : Nat} (h : rel μ)  (hc : (∀ k, k ≠ 0 → k ≠ 12 → k ≠ 13 → k ≠ 14 → k ≠ 15 → k < 49 ∨ 57 < k → μ1 k = μ k) ∧ (∀ i, i ≠ 10 → i ≠ 11 → i ≠ 12 → μ1 0 i = μ 0 i) ∧ μ1 0 10 = 0 ∧ b53 μ1 ∧ ∃ tr : TR, tR1 (tkT T n) (vlT T n) (0, []) tr ∧ match tr with | .inl f => r1 = -1 ∧ μ1 0 11 = f.1 ∧ μ1 0 12 = (plT T n) f.2 ∧ (1 ≤ f.1 ∧ f.1 ≤ 3) ∧ μ1 12 = μ 12 ∧ μ1 13 = μ 13 ∧ μ1 14 = μ 14 ∧ μ1 15 = μ 15 | .inr ls => r1 = (ls.length : Int) ∧ μ1 0 11 = 0 ∧ μ1 0 12 = -1 ∧ ls.length ≤ 16 ∧ μ1 12 4 = (ls.length : Int) ∧ (∀ i, i ≠ 4 → μ1 12 i = μ 12 i) ∧ (fl ls).length ≤ 400 ∧ cdF 0 (fl ls) (μ1 13) ∧ (∀ (i : Nat) (x : Int × CL), ls[i]? = some x → μ1 14 (i : Int) = ((fl (ls.take (i + 1))).length : Int) ∧ μ1 15 (i : Int) = (if x.1 = 0 then 1 else 0) ∧ (x.1 = 0 ∨ x.1 = 1)) ∧ (∀ i, 0 ≤ i → i < 16 → μ1 15 i = 0 ∨ μ1 15 i = 1)) (hq : (∀ k, k ≠ 60 → k < 74 ∨ 79 < k → μ2 k = μ1 k) ∧ (∀ i, tx5 i → μ2 60 i = μ1 60 i) ∧ μ2 60 17 = 0 ∧ (-1 ≤ μ2 60 21 ∧ μ2 60 21 ≤ 99999) ∧ ∃ tr, tR1 (tkT T n) (vlT T n) (0, []) tr ∧ txQ T n μ1 tr r2 μ2) : r1 = r2 ∧ rel μ2 := by
  obtain ⟨k1, k2, k3, k4, tr, ht, hm⟩ := hc
  have hf : frQ μ μ1 := fun k a b => k1 k (by omega) (by omega) (by omega) (by omega) (by omega) (by omega)
  obtain ⟨⟨x0, x1, x2, x11, x23, x14, x17, x35, x36, x46⟩, ⟨y61, y62, y66, y67, y63, y65, y64, y69, y70, y68, y72, y71⟩, z74, z75, z76, z77, z78⟩ := crQ h hf
  have hOk := h.1
  obtain ⟨s0, s1, s2, s3, s4, s5, s6, s7, s8, s9⟩ := h.2.2.2.2.2.2.1
  obtain ⟨a1, a2, a3, a4, a5, a6, a7, a8, a9, a10, a11, a12⟩ := h.2.2.2.2.2.2.2.1
  have a4k : ∀ k, μ 67 k + 1 = μ 5 k := fun k => congrFun a4 k
  have a10k : ∀ k, μ 68 k - 1 = μ 11 k := fun k => congrFun a10 k
  obtain ⟨m1, m2, m3, m4, tr2, ht2, hm2⟩ := hq
  have etr := tR1_det ht2 ht
  subst etr
  have hL := h.2.2.2.2.2.1
  have hT := h.2.2.2.2.1
  have sm : ∀ k, k ≠ 0 → k ≠ 12 → k ≠ 13 → k ≠ 14 → k ≠ 15 → k ≠ 60 → k < 49 ∨ (57 < k ∧ k < 74) ∨ 79 < k → μ2 k = μ k := fun k a0 a1 a2 a3 a4 a5 a6 => (m1 k a5 (by omega)).trans (k1 k a0 a1 a2 a3 a4 (by omega))
  have c0 : ∀ i, μ2 0 i = μ1 0 i := fun i => congrFun (m1 0 (by decide) (by decide)) i
  have c12 : μ2 12 = μ1 12 := m1 12 (by decide) (by decide)
  have c13 : μ2 13 = μ1 13 := m1 13 (by decide) (by decide)
  have c14 : μ2 14 = μ1 14 := m1 14 (by decide) (by decide)
  have c15 : μ2 15 = μ1 15 := m1 15 (by decide) (by decide)
  have c53 : b53 μ2 := by unfold b53; rw [m1 53 (by decide) (by decide)]; exact k4
  have c87 : μ2 87 = μ 87 := sm 87 (by decide) (by decide) (by decide) (by decide) (by decide) (by decide) (by decide)
  have q60 : ∀ i, tx5 i → μ2 60 i = μ 60 i := fun i hi => by rw [m2 i hi, hf 60 (by decide) (by decide)]
  have T5 : tx5 0 ∧ tx5 1 ∧ tx5 2 ∧ tx5 11 ∧ tx5 14 ∧ tx5 46 := by unfold tx5 i9; omega
  have common : (r1 = r2 ∧ gLaw (μ2 13) (μ2 14) (μ2 15) (μ2 12 4) (μ2 77) (μ2 78) (μ2 74) (μ2 75) (μ2 76) ∧ (∀ j, 0 ≤ j → j < 16 → μ2 15 j = 0 ∨ μ2 15 j = 1) ∧ μ2 60 23 = μ2 12 4 ∧ μ2 60 35 = μ2 0 11 ∧ μ2 60 36 = μ2 0 12) := by
    cases tr2 with
    | inl f =>
      obtain ⟨d1, d2, d3, d4, d5, d6, d7, d8⟩ := hm
      obtain ⟨b1, b2, b3, b4, b5, b6⟩ := hm2
      refine ⟨by rw [d1, b1], ?_, ?_, ?_, ?_, ?_⟩
      · rw [c13, c14, c15, c12, d5, d6, d7, d8]
        refine gLaw_cg hL.1 (fun i _ _ => rfl) (fun l l1 l2 => ⟨rfl, rfl, ?_, ?_, ?_⟩) (fun i i1 i2 => ⟨?_, ?_⟩)
        · rw [(b5 l l2).1, z74]
        · rw [(b5 l l2).2.1, z75]
        · rw [(b5 l l2).2.2, z76]
        · rw [(b6 i i2).1, z77]
        · rw [(b6 i i2).2, z78]
      · rw [c15, d8]; exact hL.2.1
      · rw [b4, c12, d5]; exact x23
      · rw [b2, c0, d2]
      · rw [b3, c0, d3]; rfl
    | inr ls =>
      obtain ⟨d1, d2, d3, d4, d5, d6, d7, d8, d9, d10⟩ := hm
      obtain ⟨b1, b2, b3, b4, b5, b6, b7, b8⟩ := hm2
      refine ⟨by rw [d1, b1], ?_, ?_, ?_, ?_, ?_⟩
      · rw [c13, c14, c15, c12, d5]
        exact gLaw_ls ht d4 d7 d8 d9 b7 b8
      · rw [c15]; exact d10
      · rw [b6, c12, d5]
      · rw [b4, c0, d2]
      · rw [b5, c0, d3]
  obtain ⟨r, g1, g2, g3, g4, g5⟩ := common
  refine ⟨r, ?_, ?_, ?_, ?_, ?_, ⟨g1, g2, c53, m4, ?_⟩, ?_, ?_, ?_⟩
  · unfold rOk
    rw [sm 1 (by decide) (by decide) (by decide) (by decide) (by decide) (by decide) (by decide), sm 2 (by decide) (by decide) (by decide) (by decide) (by decide) (by decide) (by decide), sm 3 (by decide) (by decide) (by decide) (by decide) (by decide) (by decide) (by decide), sm 4 (by decide) (by decide) (by decide) (by decide) (by decide) (by decide) (by decide), sm 5 (by decide) (by decide) (by decide) (by decide) (by decide) (by decide) (by decide), sm 6 (by decide) (by decide) (by decide) (by decide) (by decide) (by decide) (by decide), sm 7 (by decide) (by decide) (by decide) (by decide) (by decide) (by decide) (by decide), sm 8 (by decide) (by decide) (by decide) (by decide) (by decide) (by decide) (by decide), sm 9 (by decide) (by decide) (by decide) (by decide) (by decide) (by decide) (by decide), sm 10 (by decide) (by decide) (by decide) (by decide) (by decide) (by decide) (by decide), sm 11 (by decide) (by decide) (by decide) (by decide) (by decide) (by decide) (by decide)]
    exact hOk
  · unfold rCh
    rw [sm 1 (by decide) (by decide) (by decide) (by decide) (by decide) (by decide) (by decide), sm 2 (by decide) (by decide) (by decide) (by decide) (by decide) (by decide) (by decide), sm 3 (by decide) (by decide) (by decide) (by decide) (by decide) (by decide) (by decide), sm 38 (by decide) (by decide) (by decide) (by decide) (by decide) (by decide) (by decide), sm 39 (by decide) (by decide) (by decide) (by decide) (by decide) (by decide) (by decide)]
    exact h.2.1
  · unfold rCl
    rw [sm 1 (by decide) (by decide) (by decide) (by decide) (by decide) (by decide) (by decide), sm 2 (by decide) (by decide) (by decide) (by decide) (by decide) (by decide) (by decide), sm 3 (by decide) (by decide) (by decide) (by decide) (by decide) (by decide) (by decide), sm 8 (by decide) (by decide) (by decide) (by decide) (by decide) (by decide) (by decide), sm 7 (by decide) (by decide) (by decide) (by decide) (by decide) (by decide) (by decide), sm 6 (by decide) (by decide) (by decide) (by decide) (by decide) (by decide) (by decide), sm 34 (by decide) (by decide) (by decide) (by decide) (by decide) (by decide) (by decide), sm 35 (by decide) (by decide) (by decide) (by decide) (by decide) (by decide) (by decide)]
    exact h.2.2.1
  · unfold rUn
    rw [show μ2 0 14 = μ 0 14 from (c0 14).trans (k2 14 (by decide) (by decide) (by decide)), sm 59 (by decide) (by decide) (by decide) (by decide) (by decide) (by decide) (by decide), sm 8 (by decide) (by decide) (by decide) (by decide) (by decide) (by decide) (by decide)]
    exact h.2.2.2.1
  · unfold rTp
    rw [show μ2 0 10 = 0 from (c0 10).trans k3, sm 58 (by decide) (by decide) (by decide) (by decide) (by decide) (by decide) (by decide)]
    exact ⟨by omega, hT.2⟩
  · rw [sm 73 (by decide) (by decide) (by decide) (by decide) (by decide) (by decide) (by decide)]; exact hL.2.2.2.2
  · refine ⟨(q60 0 T5.1).trans s0, ?_, ?_, ?_, g3, ?_, ?_, g4, g5, ?_⟩
    · rw [q60 1 T5.2.1, sm 1 (by decide) (by decide) (by decide) (by decide) (by decide) (by decide) (by decide), s1]
    · rw [q60 2 T5.2.2.1, sm 1 (by decide) (by decide) (by decide) (by decide) (by decide) (by decide) (by decide), s2]
    · rw [q60 11 T5.2.2.2.1, sm 1 (by decide) (by decide) (by decide) (by decide) (by decide) (by decide) (by decide), s3]
    · rw [q60 14 T5.2.2.2.2.1, s5, c0, k2 14 (by decide) (by decide) (by decide)]
    · rw [m3, c0, k3]
    · rw [q60 46 T5.2.2.2.2.2, s9, c0, k2 2 (by decide) (by decide) (by decide)]
  · unfold rAr
    rw [sm 61 (by decide) (by decide) (by decide) (by decide) (by decide) (by decide) (by decide), sm 62 (by decide) (by decide) (by decide) (by decide) (by decide) (by decide) (by decide), sm 66 (by decide) (by decide) (by decide) (by decide) (by decide) (by decide) (by decide), sm 67 (by decide) (by decide) (by decide) (by decide) (by decide) (by decide) (by decide), sm 63 (by decide) (by decide) (by decide) (by decide) (by decide) (by decide) (by decide), sm 65 (by decide) (by decide) (by decide) (by decide) (by decide) (by decide) (by decide), sm 64 (by decide) (by decide) (by decide) (by decide) (by decide) (by decide) (by decide), sm 69 (by decide) (by decide) (by decide) (by decide) (by decide) (by decide) (by decide), sm 70 (by decide) (by decide) (by decide) (by decide) (by decide) (by decide) (by decide), sm 68 (by decide) (by decide) (by decide) (by decide) (by decide) (by decide) (by decide), sm 72 (by decide) (by decide) (by decide) (by decide) (by decide) (by decide) (by decide), sm 71 (by decide) (by decide) (by decide) (by decide) (by decide) (by decide) (by decide), sm 2 (by decide) (by decide) (by decide) (by decide) (by decide) (by decide) (by decide), sm 3 (by decide) (by decide) (by decide) (by decide) (by decide) (by decide) (by decide), sm 4 (by decide) (by decide) (by decide) (by decide) (by decide) (by decide) (by decide), sm 5 (by decide) (by decide) (by decide) (by decide) (by decide) (by decide) (by decide), sm 6 (by decide) (by decide) (by decide) (by decide) (by decide) (by decide) (by decide), sm 7 (by decide) (by decide) (by decide) (by decide) (by decide) (by decide) (by decide), sm 8 (by decide) (by decide) (by decide) (by decide) (by decide) (by decide) (by decide), sm 9 (by decide) (by decide) (by decide) (by decide) (by decide) (by decide) (by decide), sm 10 (by decide) (by decide) (by decide) (by decide) (by decide) (by decide) (by decide), sm 11 (by decide) (by decide) (by decide) (by decide) (by decide) (by decide) (by decide), sm 58 (by decide) (by decide) (by decide) (by decide) (by decide) (by decide) (by decide), sm 59 (by decide) (by decide) (by decide) (by decide) (by decide) (by decide) (by decide)]
    exact h.2.2.2.2.2.2.2.1
  · exact rIm_c h.2.2.2.2.2.2.2.2 ((c0 2).trans (k2 2 (by decide) (by decide) (by decide))) (congrFun (sm 17 (by decide) (by decide) (by decide) (by decide) (by decide) (by decide) (by decide)) 11) (congrFun (sm 17 (by decide) (by decide) (by decide) (by decide) (by decide) (by decide) (by decide)) 12) (congrFun (sm 17 (by decide) (by decide) (by decide) (by decide) (by decide) (by decide) (by decide)) 13) (sm 18 (by decide) (by decide) (by decide) (by decide) (by decide) (by decide) (by decide)) (sm 19 (by decide) (by decide) (by decide) (by decide) (by decide) (by decide) (by decide)) (sm 20 (by decide) (by decide) (by decide) (by decide) (by decide) (by decide) (by decide)) (sm 21 (by decide) (by decide) (by decide) (by decide) (by decide) (by decide) (by decide)) (sm 22 (by decide) (by decide) (by decide) (by decide) (by decide) (by decide) (by decide)) (sm 23 (by decide) (by decide) (by decide) (by decide) (by decide) (by decide) (by decide)) (sm 24 (by decide) (by decide) (by decide) (by decide) (by decide) (by decide) (by decide)) (sm 25 (by decide) (by decide) (by decide) (by decide) (by decide) (by decide) (by decide)) (sm 26 (by decide) (by decide) (by decide) (by decide) (by decide) (by decide) (by decide)) (sm 27 (by decide) (by decide) (by decide) (by decide) (by decide) (by decide) (by decide)) (congrFun (sm 28 (by decide) (by decide) (by decide) (by decide) (by decide) (by decide) (by decide)) 4) (sm 29 (by decide) (by decide) (by decide) (by decide) (by decide) (by decide) (by decide)) (sm 30 (by decide) (by decide) (by decide) (by decide) (by decide) (by decide) (by decide)) (sm 31 (by decide) (by decide) (by decide) (by decide) (by decide) (by decide) (by decide)) (sm 87 (by decide) (by decide) (by decide) (by decide) (by decide) (by decide) (by decide))

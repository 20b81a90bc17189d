theorem evl_step (op arg fct : Int → Int) {a i : Int} (h : a ≤ i) : evl op arg fct a (i + 1 - a).toNat = ev1 (op i) (arg i) fct (evl op arg fct a (i - a).toNat) := by
  rw [show (i + 1 - a).toNat = (i - a).toNat + 1 by omega]
  show ev1 (op (a + ((i - a).toNat : Int))) (arg (a + ((i - a).toNat : Int))) fct _ = _
  rw [show a + ((i - a).toNat : Int) = i by omega]
theorem evl_zero (op arg fct : Int → Int) {a i : Int} (h : i = a) : evl op arg fct a (i - a).toNat = [] := by
  rw [show (i - a).toNat = 0 by omega]; rfl
theorem lw_at {op arg fct : Int → Int} {a b i : Int} (hs : sOk op arg a b) (hi : a ≤ i ∧ i < b) (hf : ∀ i, 0 ≤ i → i < 8 → -2147483648 ≤ fct i ∧ fct i ≤ 2147483647) : ∃ σ τ, vAll (evl op arg fct a (i - a).toNat) σ ∧ tyC (op i) (arg i) σ τ ∧ σ.length ≤ 31 := by
  rcases hs.2 with h | h
  · omega
  · have e : (b - a).toNat = ((i - a).toNat + 1) + (b - a - (i - a) - 1).toNat := by omega
    rw [e] at h
    obtain ⟨τ, hτ⟩ := typ_pre h
    obtain ⟨σ, h1, h2⟩ := typ_step hτ
    rw [show a + ((i - a).toNat : Int) = i by omega] at h2
    exact ⟨σ, τ, vAll_evl hf h1, h2, typ_len h1⟩
theorem lw_dis {op arg fct : Int → Int} {a b i : Int} (hs : sOk op arg a b) (hi : a ≤ i ∧ i < b) (hf : ∀ i, 0 ≤ i → i < 8 → -2147483648 ≤ fct i ∧ fct i ≤ 2147483647) {h : Int} (hh : h = ((evl op arg fct a (i - a).toNat).length : Int)) :
    (op i = 0 ∧ (0 ≤ arg i ∧ arg i ≤ 9999) ∧ 0 ≤ h ∧ h ≤ 30) ∨ (op i = 1 ∧ (0 ≤ arg i ∧ arg i < 8) ∧ 0 ≤ h ∧ h ≤ 30) ∨ (op i = 9 ∧ 1 ≤ h ∧ h ≤ 31) ∨ ((2 ≤ op i ∧ op i ≤ 11 ∧ op i ≠ 9) ∧ 2 ≤ h ∧ h ≤ 31) := by
  obtain ⟨σ, τ, h1, h2, h3⟩ := lw_at hs hi hf
  have h4 := vAll_len h1
  rcases h2 with ⟨ho, hn, hl, rfl⟩ | ⟨ho, hn, hl, rfl⟩ | ⟨ho, t, rfl, rfl⟩ | ⟨x, y, u, rfl, h2⟩
  · exact Or.inl ⟨ho, hn, by omega, by omega⟩
  · exact Or.inr (Or.inl ⟨ho, hn, by omega, by omega⟩)
  · simp at h4 h3
    exact Or.inr (Or.inr (Or.inl ⟨ho, by omega, by omega⟩))
  · simp at h4 h3
    exact Or.inr (Or.inr (Or.inr ⟨by omega, by omega, by omega⟩))
theorem lw_not {op arg fct : Int → Int} {a b i : Int} (hs : sOk op arg a b) (hi : a ≤ i ∧ i < b) (hf : ∀ i, 0 ≤ i → i < 8 → -2147483648 ≤ fct i ∧ fct i ≤ 2147483647) (ho : op i = 9) : ∃ x t, evl op arg fct a (i - a).toNat = x :: t ∧ (x = 0 ∨ x = 1) := by
  obtain ⟨σ, τ, h1, h2, h3⟩ := lw_at hs hi hf
  rcases h2 with ⟨ho, hn, hl, rfl⟩ | ⟨ho, hn, hl, rfl⟩ | ⟨ho, t, rfl, rfl⟩ | ⟨x, y, u, rfl, h2⟩
  · omega
  · omega
  · revert h1
    cases evl op arg fct a (i - a).toNat with
    | nil => intro h; exact h.elim
    | cons v vs => intro h; exact ⟨v, vs, rfl, h.1.2.1 rfl⟩
  · omega
theorem lw_two {op arg fct : Int → Int} {a b i : Int} (hs : sOk op arg a b) (hi : a ≤ i ∧ i < b) (hf : ∀ i, 0 ≤ i → i < 8 → -2147483648 ≤ fct i ∧ fct i ≤ 2147483647) (ho : op i ≠ 0 ∧ op i ≠ 1 ∧ op i ≠ 9) : ∃ x y u, evl op arg fct a (i - a).toNat = x :: y :: u ∧ (-2147483648 ≤ x ∧ x ≤ 2147483647) ∧ (-2147483648 ≤ y ∧ y ≤ 2147483647) ∧ (op i = 5 → 1 ≤ x ∧ x ≤ 9999) ∧ (op i = 10 ∨ op i = 11 → (x = 0 ∨ x = 1) ∧ (y = 0 ∨ y = 1)) := by
  obtain ⟨σ, τ, h1, h2, h3⟩ := lw_at hs hi hf
  rcases h2 with ⟨ho, hn, hl, rfl⟩ | ⟨ho, hn, hl, rfl⟩ | ⟨ho, t, rfl, rfl⟩ | ⟨x, y, u, rfl, h2⟩
  · omega
  · omega
  · omega
  · revert h1
    cases evl op arg fct a (i - a).toNat with
    | nil => intro h; exact h.elim
    | cons v vs =>
      cases vs with
      | nil => intro h; exact h.2.elim
      | cons w ws =>
        intro h
        refine ⟨v, w, ws, rfl, h.1.1, h.2.1.1, fun q => ?_, fun q => ?_⟩
        · exact h.1.2.2 (by omega)
        · exact ⟨h.1.2.1 (by omega), h.2.1.2.1 (by omega)⟩
/-- the last stack holds one value -/
theorem lw_end {op arg fct : Int → Int} {a b : Int} (hs : sOk op arg a b) (hab : a ≠ b) (hf : ∀ i, 0 ≤ i → i < 8 → -2147483648 ≤ fct i ∧ fct i ≤ 2147483647) : ∃ x, evl op arg fct a (b - a).toNat = [x] ∧ (x = 0 ∨ x = 1) := by
  rcases hs.2 with h | h
  · exact absurd h hab
  · have h1 := vAll_evl hf h (fct := fct)
    revert h1
    cases evl op arg fct a (b - a).toNat with
    | nil => intro h; exact h.elim
    | cons v vs =>
      cases vs with
      | nil => intro h; exact ⟨v, rfl, h.1.2.1 rfl⟩
      | cons w ws => intro h; exact h.2.elim
theorem hold_same {op arg fct : Int → Int} {a : Int} : hold op arg fct a a = true := by simp [hold]
theorem hold_end {op arg fct : Int → Int} {a b x : Int} (hab : a ≠ b) (he : evl op arg fct a (b - a).toNat = [x]) : hold op arg fct a b = decide (x ≠ 0) := by
  unfold hold
  rw [he]
  simp [hab]
theorem enc_dis {o v c : Int} (h : c = enc o v) : (o = 0 ∧ c = v) ∨ (o = 1 ∧ c = 10000 + v) ∨ (o = 2 ∧ c = -43) ∨ (o = 3 ∧ c = -45) ∨ (o = 4 ∧ c = -42) ∨ (o = 5 ∧ c = -47) ∨ (o = 6 ∧ c = -60) ∨ (o = 7 ∧ c = -61) ∨ (o = 8 ∧ c = -62) ∨ (o = 9 ∧ c = -5) ∨ (o = 10 ∧ c = -4) ∨ ((o < 0 ∨ 11 ≤ o) ∧ c = -3) := by
  by_cases h0 : o = 0
  · subst h0; exact Or.inl ⟨rfl, h⟩
  refine Or.inr ?_
  by_cases h1 : o = 1
  · subst h1; exact Or.inl ⟨rfl, h⟩
  refine Or.inr ?_
  by_cases h2 : o = 2
  · subst h2; exact Or.inl ⟨rfl, h⟩
  refine Or.inr ?_
  by_cases h3 : o = 3
  · subst h3; exact Or.inl ⟨rfl, h⟩
  refine Or.inr ?_
  by_cases h4 : o = 4
  · subst h4; exact Or.inl ⟨rfl, h⟩
  refine Or.inr ?_
  by_cases h5 : o = 5
  · subst h5; exact Or.inl ⟨rfl, h⟩
  refine Or.inr ?_
  by_cases h6 : o = 6
  · subst h6; exact Or.inl ⟨rfl, h⟩
  refine Or.inr ?_
  by_cases h7 : o = 7
  · subst h7; exact Or.inl ⟨rfl, h⟩
  refine Or.inr ?_
  by_cases h8 : o = 8
  · subst h8; exact Or.inl ⟨rfl, h⟩
  refine Or.inr ?_
  by_cases h9 : o = 9
  · subst h9; exact Or.inl ⟨rfl, h⟩
  refine Or.inr ?_
  by_cases h10 : o = 10
  · subst h10; exact Or.inl ⟨rfl, h⟩
  refine Or.inr ?_
  unfold enc at h
  rw [if_neg h0, if_neg h1, if_neg h2, if_neg h3, if_neg h4, if_neg h5, if_neg h6, if_neg h7, if_neg h8, if_neg h9, if_neg h10] at h
  exact ⟨by omega, h⟩
theorem stk_top {f : Int → Int} {x : Int} {t : List Int} {h : Int} (hs : stk f (x :: t)) (hh : h = ((x :: t).length : Int)) : f (h - 1) = x := by
  rw [show h - 1 = (t.length : Int) by rw [hh]; simp]
  exact hs.1
theorem stk_two {f : Int → Int} {x y : Int} {t : List Int} {h : Int} (hs : stk f (x :: y :: t)) (hh : h = ((x :: y :: t).length : Int)) : f (h - 1) = x ∧ f (h - 2) = y := by
  refine ⟨stk_top hs hh, ?_⟩
  rw [show h - 2 = (t.length : Int) by rw [hh]; simp; omega]
  exact hs.2.1
theorem stk_put {f : Int → Int} {v : Int} {t : List Int} {h : Int} (hs : stk f t) (hh : h = (t.length : Int)) : stk (up1 f h v) (v :: t) := by
  refine ⟨?_, ?_⟩
  · rw [← hh]; exact up1_s
  · exact stk_push (by omega) hs
theorem lawS_step {op arg fct lw lf lt : Int → Int} {m i : Int} (hi : 0 ≤ i ∧ i < m) : lawS op arg fct lw lf lt m.toNat (m - i).toNat = if hold op arg fct (lf i) (lt i) then (if lw i = 0 then 1 else 0) else lawS op arg fct lw lf lt m.toNat (m - (i + 1)).toNat := by
  rw [show (m - i).toNat = (m - (i + 1)).toNat + 1 by omega]
  show (if hold op arg fct (lf ((m.toNat : Int) - ((m - (i + 1)).toNat + 1))) (lt ((m.toNat : Int) - ((m - (i + 1)).toNat + 1))) then (if lw ((m.toNat : Int) - ((m - (i + 1)).toNat + 1)) = 0 then 1 else 0) else _) = _
  rw [show (m.toNat : Int) - (((m - (i + 1)).toNat : Int) + 1) = i by omega]
theorem and_b {x y : Int} (hx : x = 0 ∨ x = 1) (hy : y = 0 ∨ y = 1) : ot_and x y = if x = 1 ∧ y = 1 then 1 else 0 := by
  rcases hx with rfl | rfl <;> rcases hy with rfl | rfl <;> decide
theorem or_b {x y : Int} (hx : x = 0 ∨ x = 1) (hy : y = 0 ∨ y = 1) : ot_or x y = if x = 1 ∨ y = 1 then 1 else 0 := by
  rcases hx with rfl | rfl <;> rcases hy with rfl | rfl <;> decide
theorem mul_b {x y : Int} (hx : x = 0 ∨ x = 1) (hy : y = 0 ∨ y = 1) : x * y = if x = 1 ∧ y = 1 then 1 else 0 := by
  rcases hx with rfl | rfl <;> rcases hy with rfl | rfl <;> decide
/-- the facts that a law may ask for -/
def fcV (px py cnt row sh : Int → Int) (t q : Int) : Int → Int := fun i => if i = 0 then row (120 * t + (cnt t - 1)) else if i = 1 then q else if i = 2 then lenP (px (row (120 * t + (cnt t - 1)))) (py (row (120 * t + (cnt t - 1)))) (px q) (py q) else if i = 3 then usd cnt row (row (120 * t + (cnt t - 1))) q else if i = 4 then t else if i = 5 then cnt t else if i = 6 then (if 1 < cnt t ∧ row (120 * t + (cnt t - 2)) = q then 1 else 0) else sh t
theorem usd_usC {cnt row : Int → Int} {n a b : Int} (hn : n ≤ 24) (hW : gWnd n cnt row) (ha : 0 ≤ a ∧ a < 24) (hb : 0 ≤ b ∧ b < 24) (hab : a ≠ b) : usC cnt row (chN a b) = usd cnt row a b := by
  unfold usC usd
  refine sumN_congr (fun t t1 t2 => sumN_congr (fun i i1 i2 => ?_))
  have hw := wnd_at hW (t := t) (i := i) t1 (by omega) i1 (by omega)
  by_cases h : chN (row (120 * t + i)) (row (120 * t + i + 1)) = chN a b
  · rw [if_pos h]
    have := chN_inj (by omega) (by omega) hw.2.2 ha hb hab h
    rw [if_pos (by omega)]
  · rw [if_neg h, if_neg]
    rintro (w | w)
    · exact h (by rw [w.1, w.2])
    · exact h (by rw [w.1, w.2, chN_comm])
theorem usd_bd {cnt row : Int → Int} {n a b : Int} (hW : gWnd n cnt row) : 0 ≤ usd cnt row a b ∧ usd cnt row a b ≤ 357 := by
  have := wsum_bd (G := fun _ x y => if (x = a ∧ y = b) ∨ (x = b ∧ y = a) then 1 else 0) hW (c := 1) (by omega) (fun t i _ _ _ _ => by show 0 ≤ (if _ then (1 : Int) else 0) ∧ (if _ then (1 : Int) else 0) ≤ 1; split <;> omega)
  exact this
theorem fcV_rng {px py cnt row sh : Int → Int} {S n t q : Int} (hG : gPin S n px py) (hW : gWnd n cnt row) (hs : gShd sh) (ht : 0 ≤ t ∧ t < 3) (hq : 0 ≤ q ∧ q < n) (hc : 1 ≤ cnt t) : ∀ i, 0 ≤ i → i < 8 → -2147483648 ≤ fcV px py cnt row sh t q i ∧ fcV px py cnt row sh t q i ≤ 2147483647 := by
  intro i _ _
  have hWt := hW t ht.1 ht.2
  have h1 := hWt.2.1 (cnt t - 1) (by omega) (by omega)
  have hN := hG.2.1
  have h2 := gPin_at hG h1.1 h1.2
  have h3 := gPin_at hG hq.1 hq.2
  have h4 := usd_bd (a := row (120 * t + (cnt t - 1))) (b := q) hW
  have h5 := hs t ht.1 ht.2
  have h6 : 0 ≤ lenP (px (row (120 * t + (cnt t - 1)))) (py (row (120 * t + (cnt t - 1)))) (px q) (py q) ∧ lenP (px (row (120 * t + (cnt t - 1)))) (py (row (120 * t + (cnt t - 1)))) (px q) (py q) ≤ 8 := by
    unfold lenP; omega
  unfold fcV
  repeat' split
  all_goals omega
/-- whether a thread may go on to a pin -/
def mayS (op arg lw lf lt : Int → Int) (m : Int) (px py cnt row sh : Int → Int) (t q : Int) : Int := if cnt t < 120 ∧ (cnt t = 0 ∨ row (120 * t + (cnt t - 1)) ≠ q) then (if cnt t = 0 then 1 else lawS op arg (fcV px py cnt row sh t q) lw lf lt m.toNat m.toNat) else 0
theorem lawS_bool {op arg fct lw lf lt : Int → Int} {m : Nat} : ∀ k : Nat, lawS op arg fct lw lf lt m k = 0 ∨ lawS op arg fct lw lf lt m k = 1
  | 0 => Or.inr rfl
  | k + 1 => by
    show (if _ then _ else _) = _ ∨ (if _ then _ else _) = _
    split
    · split <;> omega
    · exact lawS_bool k
theorem mayS_bool {op arg lw lf lt px py cnt row sh : Int → Int} {m t q : Int} : mayS op arg lw lf lt m px py cnt row sh t q = 0 ∨ mayS op arg lw lf lt m px py cnt row sh t q = 1 := by
  unfold mayS
  split
  · split
    · omega
    · exact lawS_bool _
  · omega

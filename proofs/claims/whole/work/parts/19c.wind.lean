/-! sums over all lines of all windings -/
def wsum (G : Int → Int → Int → Int) (cnt row : Int → Int) : Int := sumN (fun t => sumN (fun i => G t (row (120 * t + i)) (row (120 * t + i + 1))) (cnt t - 1).toNat) 3
theorem dk_w (S : Int) (px py cnt row sh : Int → Int) (k : Int) : dk S px py cnt row sh k = wsum (fun t x y => sh t * smp S px py x y k) cnt row := rfl
theorem usC_w (cnt row : Int → Int) (h : Int) : usC cnt row h = wsum (fun _ x y => if chN x y = h then 1 else 0) cnt row := rfl
theorem wsum_congr {G G2 : Int → Int → Int → Int} {cnt cnt2 row row2 : Int → Int} (hc : ∀ t, 0 ≤ t → t < 3 → cnt2 t = cnt t) (hr : ∀ t i, 0 ≤ t → t < 3 → 0 ≤ i → i < cnt t → row2 (120 * t + i) = row (120 * t + i)) (hG : ∀ t i, 0 ≤ t → t < 3 → 0 ≤ i → i + 1 < cnt t → G2 t (row (120 * t + i)) (row (120 * t + i + 1)) = G t (row (120 * t + i)) (row (120 * t + i + 1))) : wsum G2 cnt2 row2 = wsum G cnt row := by
  refine sumN_congr (fun t t1 t2 => ?_)
  have t2' : t < 3 := by omega
  rw [hc t t1 t2']
  refine sumN_congr (fun i i1 i2 => ?_)
  have e1 := hr t i t1 t2' i1 (by omega)
  have e2 := hr t (i + 1) t1 t2' (by omega) (by omega)
  rw [show 120 * t + (i + 1) = 120 * t + i + 1 by omega] at e2
  rw [e1, e2]
  exact hG t i t1 t2' i1 (by omega)
/-- the part of one thread -/
def wthr (G : Int → Int → Int → Int) (row : Int → Int) (t : Int) (n : Nat) : Int := sumN (fun i => G t (row (120 * t + i)) (row (120 * t + i + 1))) n
theorem wsum3 (G : Int → Int → Int → Int) (cnt row : Int → Int) : wsum G cnt row = wthr G row 0 (cnt 0 - 1).toNat + wthr G row 1 (cnt 1 - 1).toNat + wthr G row 2 (cnt 2 - 1).toNat := by
  show ((0 + _) + _) + _ = _
  unfold wthr
  simp
theorem wthr_ext {G : Int → Int → Int → Int} {row row2 : Int → Int} {t : Int} {n : Nat} (h : ∀ i : Int, 0 ≤ i → i ≤ n → row2 (120 * t + i) = row (120 * t + i)) : wthr G row2 t n = wthr G row t n :=
  sumN_congr (fun i i1 i2 => by
    have e1 := h i i1 (by omega)
    have e2 := h (i + 1) (by omega) (by omega)
    rw [show 120 * t + (i + 1) = 120 * t + i + 1 by omega] at e2
    rw [e1, e2])
theorem wsum_other {G : Int → Int → Int → Int} {cnt cnt2 row row2 : Int → Int} {t d : Int} (ht : 0 ≤ t ∧ t < 3) (hc : ∀ u, u ≠ t → cnt2 u = cnt u) (hr : ∀ u, 0 ≤ u → u < 3 → u ≠ t → wthr G row2 u (cnt u - 1).toNat = wthr G row u (cnt u - 1).toNat) (hd : wthr G row2 t (cnt2 t - 1).toNat = wthr G row t (cnt t - 1).toNat + d) : wsum G cnt2 row2 = wsum G cnt row + d := by
  rw [wsum3, wsum3]
  rcases (show t = 0 ∨ t = 1 ∨ t = 2 by omega) with q | q | q <;> subst q
  · rw [hd, hc 1 (by decide), hc 2 (by decide), hr 1 (by decide) (by decide) (by decide), hr 2 (by decide) (by decide) (by decide)]; omega
  · rw [hd, hc 0 (by decide), hc 2 (by decide), hr 0 (by decide) (by decide) (by decide), hr 2 (by decide) (by decide) (by decide)]; omega
  · rw [hd, hc 1 (by decide), hc 0 (by decide), hr 1 (by decide) (by decide) (by decide), hr 0 (by decide) (by decide) (by decide)]; omega
theorem wsum_push {G : Int → Int → Int → Int} {cnt row : Int → Int} {t q : Int} (ht : 0 ≤ t ∧ t < 3) (hb : ∀ u, 0 ≤ u → u < 3 → 0 ≤ cnt u ∧ cnt u ≤ 120) (hc : 0 ≤ cnt t ∧ cnt t < 120) : wsum G (up1 cnt t (cnt t + 1)) (up1 row (120 * t + cnt t) q) = wsum G cnt row + (if cnt t = 0 then 0 else G t (row (120 * t + (cnt t - 1))) q) := by
  refine wsum_other ht (fun u hu => up1_n hu) (fun u u1 u2 u3 => wthr_ext (fun i i1 i2 => up1_n (by have := hb u u1 u2; omega))) ?_
  rw [up1_s, show cnt t + 1 - 1 = cnt t by omega]
  by_cases h0 : cnt t = 0
  · rw [if_pos h0, h0]; rfl
  · rw [if_neg h0]
    unfold wthr
    have e := sumN_toNat (fun i => G t (up1 row (120 * t + cnt t) q (120 * t + i)) (up1 row (120 * t + cnt t) q (120 * t + i + 1))) (show 0 ≤ cnt t - 1 by omega)
    rw [show cnt t - 1 + 1 = cnt t by omega] at e
    rw [e]
    congr 1
    · exact sumN_congr (fun i i1 i2 => by rw [up1_n (by omega), up1_n (by omega)])
    · rw [up1_n (by omega), show 120 * t + (cnt t - 1) + 1 = 120 * t + cnt t by omega, up1_s]
theorem wsum_pop {G : Int → Int → Int → Int} {cnt row : Int → Int} {t : Int} (ht : 0 ≤ t ∧ t < 3) (hc : 0 ≤ cnt t) : wsum G (up1 cnt t (max (cnt t - 1) 0)) row = wsum G cnt row + (if cnt t ≤ 1 then 0 else - G t (row (120 * t + (cnt t - 2))) (row (120 * t + (cnt t - 1)))) := by
  refine wsum_other ht (fun u hu => up1_n hu) (fun u u1 u2 u3 => rfl) ?_
  rw [up1_s]
  by_cases h0 : cnt t ≤ 1
  · rw [if_pos h0, show (max (cnt t - 1) 0 - 1).toNat = (cnt t - 1).toNat by omega]; omega
  · rw [if_neg h0]
    unfold wthr
    have e := sumN_toNat (fun i => G t (row (120 * t + i)) (row (120 * t + i + 1))) (show 0 ≤ cnt t - 2 by omega)
    rw [show cnt t - 2 + 1 = cnt t - 1 by omega, show 120 * t + (cnt t - 2) + 1 = 120 * t + (cnt t - 1) by omega] at e
    rw [e, show max (cnt t - 1) 0 - 1 = cnt t - 2 by omega]
    omega
/-- the cloth is the windings' -/
def gClo (S : Int) (px py cnt row sh dark use : Int → Int) : Prop := (∀ k, 0 ≤ k → k < 64 → dark k = dk S px py cnt row sh k) ∧ ∀ h, 0 ≤ h → h < 276 → use h = usC cnt row h
theorem gWnd_push {n t q : Int} {cnt row : Int → Int} (h : gWnd n cnt row) (ht : 0 ≤ t ∧ t < 3) (hc : cnt t < 120) (hq : 0 ≤ q ∧ q < n) (hne : 1 ≤ cnt t → row (120 * t + (cnt t - 1)) ≠ q) : gWnd n (up1 cnt t (cnt t + 1)) (up1 row (120 * t + cnt t) q) := by
  intro u u1 u2
  have hu := h u u1 u2
  by_cases e : u = t
  · subst e
    rw [up1_s]
    refine ⟨by omega, fun i i1 i2 => ?_, fun i i1 i2 => ?_⟩
    · by_cases hi : i = cnt u
      · subst hi; rw [up1_s]; exact hq
      · rw [up1_n (by omega)]; exact hu.2.1 i i1 (by omega)
    · by_cases hi : i + 1 = cnt u
      · rw [up1_n (by omega), show 120 * u + i + 1 = 120 * u + cnt u by omega, up1_s, show 120 * u + i = 120 * u + (cnt u - 1) by omega]
        exact hne (by omega)
      · rw [up1_n (by omega), up1_n (by omega)]
        exact hu.2.2 i i1 (by omega)
  · rw [up1_n e]
    have ht2 := h t ht.1 ht.2
    refine ⟨hu.1, fun i i1 i2 => by rw [up1_n (by omega)]; exact hu.2.1 i i1 i2, fun i i1 i2 => by rw [up1_n (by omega), up1_n (by omega)]; exact hu.2.2 i i1 i2⟩
theorem gWnd_pop {n t c : Int} {cnt row : Int → Int} (h : gWnd n cnt row) (hc : 0 ≤ c ∧ c ≤ cnt t) : gWnd n (up1 cnt t c) row := by
  intro u u1 u2
  have hu := h u u1 u2
  by_cases e : u = t
  · subst e
    rw [up1_s]
    exact ⟨by omega, fun i i1 i2 => hu.2.1 i i1 (by omega), fun i i1 i2 => hu.2.2 i i1 (by omega)⟩
  · rw [up1_n e]; exact hu
theorem sumN_upd {f : Int → Int} {s v : Int} : ∀ {n : Nat}, 0 ≤ s → s < n → sumN (fun k => if k = s then v else f k) n = sumN f n - f s + v
  | 0, h1, h2 => by omega
  | n + 1, h1, h2 => by
    rw [sumN_succ, sumN_succ]
    by_cases h : s = (n : Int)
    · subst h
      rw [if_pos rfl, sumN_congr (g := f) (fun i i1 i2 => if_neg (by omega))]; omega
    · rw [sumN_upd (n := n) h1 (by omega), if_neg (fun q => h q.symm)]; omega
/-- a sum over a line's cells is one over all squares -/
theorem rowSum {F : Int → Int → Int} (hF : ∀ k, F k 0 = 0) {cl : Int → Int} {o : Int} : ∀ {m : Nat}, (∀ c : Int, 0 ≤ c → c < m → 0 ≤ cl (o + c) ∧ cl (o + c) < 1024) → (∀ c d : Int, 0 ≤ c → c < m → 0 ≤ d → d < m → cl (o + c) / 16 = cl (o + d) / 16 → c = d) → sumN (fun c => F (cl (o + c) / 16) (cl (o + c) % 16)) m = sumN (fun k => F k (clS cl o k m)) 64
  | 0, _, _ => (sumN_zero (fun k _ _ => hF k)).symm
  | m + 1, h1, h2 => by
    rw [sumN_succ, rowSum hF (m := m) (fun c c1 c2 => h1 c c1 (by omega)) (fun c d c1 c2 d1 d2 q => h2 c d c1 (by omega) d1 (by omega) q)]
    have hm := h1 m (by omega) (by omega)
    have e0 : clS cl o (cl (o + (m : Int)) / 16) m = 0 := clS_no (fun c c1 c2 q => absurd (h2 c m c1 (by omega) (by omega) (by omega) q) (by omega))
    have e1 : ∀ k, clS cl o k (m + 1) = clS cl o k m + (if cl (o + (m : Int)) / 16 = k then cl (o + (m : Int)) % 16 else 0) := fun k => rfl
    have e2 := sumN_upd (f := fun k => F k (clS cl o k m)) (s := cl (o + (m : Int)) / 16) (v := F (cl (o + (m : Int)) / 16) (cl (o + (m : Int)) % 16)) (n := 64) (by omega) (by omega)
    rw [e0, hF] at e2
    rw [show sumN (fun k => F k (clS cl o k m)) 64 + F (cl (o + (m : Int)) / 16) (cl (o + (m : Int)) % 16) = sumN (fun k => F k (clS cl o k m)) 64 - 0 + F (cl (o + (m : Int)) / 16) (cl (o + (m : Int)) % 16) by omega, ← e2]
    refine sumN_congr (fun k k1 k2 => ?_)
    by_cases hk : k = cl (o + (m : Int)) / 16
    · rw [if_pos hk, hk, e1, e0, if_pos rfl, Int.zero_add]
    · rw [if_neg hk, e1, if_neg (fun q => hk q.symm), Int.add_zero]
theorem mul_bd {x z : Int} (hx : -9 ≤ x ∧ x ≤ 9) (hz : 0 ≤ z ∧ z ≤ 8) : -72 ≤ x * z ∧ x * z ≤ 72 := by
  rcases (show z = 0 ∨ z = 1 ∨ z = 2 ∨ z = 3 ∨ z = 4 ∨ z = 5 ∨ z = 6 ∨ z = 7 ∨ z = 8 by omega) with q | q | q | q | q | q | q | q | q <;> subst q <;> omega
theorem gChd_zero {S n : Int} {px py cl sz : Int → Int} (hn : n ≤ 24) (h : ∀ c, 0 ≤ c → c < 276 → sz c = 0) : gChd S n px py cl sz := by
  refine ⟨fun a b h1 h2 h3 => Or.inl ?_, fun a b h1 h2 h3 h4 => ?_⟩
  · have := chN_in (a := a) (b := b) (by omega) (by omega) (by omega)
    exact h _ this.1 this.2
  · have := chN_in (a := a) (b := b) (by omega) (by omega) (by omega)
    exact h _ this.1 this.2

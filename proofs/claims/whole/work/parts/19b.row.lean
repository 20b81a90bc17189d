theorem gRow_ext {S xa ya xb yb : Int} {cl cl' : Int → Int} {o m : Int} (h : gRow S xa ya xb yb cl o m) (he : ∀ j, o ≤ j → j < o + 16 → cl' j = cl j) : gRow S xa ya xb yb cl' o m := by
  obtain ⟨h1, h2, h3, h4⟩ := h
  have e : ∀ c, 0 ≤ c → c < m → cl' (o + c) = cl (o + c) := fun c c1 c2 => he _ (by omega) (by omega)
  refine ⟨h1, fun c c1 c2 => by rw [e c c1 c2]; exact h2 c c1 c2, fun c d c1 c2 d1 d2 q => h3 c d c1 c2 d1 d2 (by rw [← e c c1 c2, ← e d d1 d2]; exact q), fun k => ?_⟩
  rw [h4 k]
  exact sumN_congr (fun c c1 c2 => by rw [e c c1 (by omega)])
theorem gChd_sz {S n : Int} {px py cl sz : Int → Int} (h : gChd S n px py cl sz) {a b : Int} (ha : 0 ≤ a ∧ a < n) (hb : 0 ≤ b ∧ b < n) (hab : a ≠ b) : sz (chN a b) = 0 ∨ gRow S (px (min a b)) (py (min a b)) (px (max a b)) (py (max a b)) cl (chN a b * 16) (sz (chN a b)) := by
  have e : chN a b = chN (min a b) (max a b) := by unfold chN; rw [show max (min a b) (max a b) = max a b by omega, show min (min a b) (max a b) = min a b by omega]
  rw [e]
  exact h.1 _ _ (by omega) (by omega) (by omega)
theorem gChd_set {S n : Int} {px py cl sz f : Int → Int} {a b m : Int} (h : gChd S n px py cl sz) (hn : n ≤ 24) (ha : 0 ≤ a) (hab : a < b) (hb : b < n) (hf : ∀ j, ¬ (chN a b * 16 ≤ j ∧ j < chN a b * 16 + 16) → f j = cl j) (hr : gRow S (px a) (py a) (px b) (py b) f (chN a b * 16) m) : gChd S n px py f (up1 sz (chN a b) m) := by
  refine ⟨fun x y hx hxy hy => ?_, fun x y hx hxy hy hy2 => ?_⟩
  · by_cases hc : chN x y = chN a b
    · have := chN_inj (a := x) (b := y) (x := a) (y := b) (by omega) (by omega) (by omega) (by omega) (by omega) (by omega) hc
      rw [show x = a by omega, show y = b by omega, up1_s]
      exact Or.inr hr
    · rw [up1_n hc]
      rcases h.1 x y hx hxy hy with q | q
      · exact Or.inl q
      · exact Or.inr (gRow_ext q (fun j j1 j2 => hf j (by omega)))
  · by_cases hc : chN x y = chN a b
    · have := chN_inj (a := x) (b := y) (x := a) (y := b) (by omega) (by omega) (by omega) (by omega) (by omega) (by omega) hc
      omega
    · rw [up1_n hc]
      exact h.2 x y hx hxy hy hy2
theorem clS_no {f : Int → Int} {o k : Int} {m : Nat} (h : ∀ c : Int, 0 ≤ c → c < m → f (o + c) / 16 ≠ k) : clS f o k m = 0 := sumN_zero (fun c c1 c2 => if_neg (h c c1 c2))
theorem clS_at {f : Int → Int} {o k c0 : Int} : ∀ {m : Nat}, (∀ c d : Int, 0 ≤ c → c < m → 0 ≤ d → d < m → f (o + c) / 16 = f (o + d) / 16 → c = d) → 0 ≤ c0 → c0 < m → f (o + c0) / 16 = k → clS f o k m = f (o + c0) % 16
  | 0, _, h1, h2, _ => by omega
  | m + 1, hd, h1, h2, h3 => by
    show clS f o k m + (if f (o + (m : Int)) / 16 = k then f (o + (m : Int)) % 16 else 0) = _
    by_cases hc : c0 = (m : Int)
    · subst hc
      rw [if_pos h3, clS_no (fun c c1 c2 q => absurd (hd c m c1 (by omega) (by omega) (by omega) (q.trans h3.symm)) (by omega))]
      omega
    · rw [if_neg (fun q => hc (hd c0 m h1 (by omega) (by omega) (by omega) (h3.trans q.symm))), clS_at (m := m) (fun c d c1 c2 d1 d2 q => hd c d c1 (by omega) d1 (by omega) q) h1 (by omega) h3]
      omega
theorem gRow_smp {S : Int} {px py cl : Int → Int} {a b o m : Int} (h : gRow S (px (min a b)) (py (min a b)) (px (max a b)) (py (max a b)) cl o m) (k : Int) : smp S px py a b k = clS cl o k m.toNat := h.2.2.2 k
theorem ot_memCS {μ : ot_M} : μ = ot_uc (ot_uc μ 38 (μ 38)) 39 (μ 39) := by
  rw [show ∀ f, ot_uc (ot_uc μ 38 f) 39 (μ 39) = ot_uc μ 38 f from fun f => by
    funext k j
    by_cases h1 : k = 39 <;> by_cases h2 : k = 38 <;> simp [ot_uc, h1, h2], ot_uc_self]
theorem ot_up_uc {μ : ot_M} {k : Nat} {i v : Int} : ot_up μ k i v = ot_uc μ k (up1 (μ k) i v) := by
  funext k' j
  by_cases h : k' = k <;> simp [ot_up, ot_uc, up1, h]
/-- how often a line's number is there -/
def usC (cnt row : Int → Int) (h : Int) : Int := sumN (fun t => sumN (fun i => if chN (row (120 * t + i)) (row (120 * t + i + 1)) = h then 1 else 0) (cnt t - 1).toNat) 3

/-! the loop that measures a line -/
def up1 (f : Int → Int) (x v : Int) : Int → Int := fun j => if j = x then v else f j
theorem up1_s {f : Int → Int} {x v : Int} : up1 f x v x = v := by simp [up1]
theorem up1_n {f : Int → Int} {x v j : Int} (h : j ≠ x) : up1 f x v j = f j := by simp [up1, h]
/-- what the cells add up to -/
def clS (cl : Int → Int) (o k : Int) (m : Nat) : Int := sumN (fun c => if cl (o + c) / 16 = k then cl (o + c) % 16 else 0) m
def mInv (S xa ya xb yb o i m q : Int) (f : Int → Int) : Prop := (0 ≤ i ∧ i ≤ 8 * lenP xa ya xb yb) ∧ 0 ≤ m ∧
  ((i = 0 ∧ m = 0 ∧ q = -1) ∨ ((1 ≤ i ∧ 1 ≤ m) ∧ m ≤ 1 + sqD S xa ya xb yb (i - 1) ∧ q = sqm S xa ya xb yb (i - 1) ∧ f (o + (m - 1)) / 16 = q ∧ ∃ i0, (0 ≤ i0 ∧ i0 < i) ∧ sqm S xa ya xb yb i0 = q ∧ f (o + (m - 1)) % 16 = i - i0)) ∧
  (∀ c, 0 ≤ c → c < m → ((0 ≤ f (o + c) ∧ f (o + c) < 1024) ∧ 1 ≤ f (o + c) % 16 ∧ f (o + c) % 16 ≤ 8) ∧ ∃ j, (0 ≤ j ∧ j < i) ∧ sqm S xa ya xb yb j = f (o + c) / 16) ∧
  (∀ c d, 0 ≤ c → c < m → 0 ≤ d → d < m → f (o + c) / 16 = f (o + d) / 16 → c = d) ∧
  ∀ k, sumN (fun j => if sqm S xa ya xb yb j = k then 1 else 0) i.toNat = clS f o k m.toNat
theorem clS_ext {f g : Int → Int} {o k : Int} {m : Nat} (h : ∀ c : Int, 0 ≤ c → c < m → g (o + c) = f (o + c)) : clS g o k m = clS f o k m :=
  sumN_congr (fun c h1 h2 => by rw [h c h1 h2])
theorem mInv_new {S xa ya xb yb o i m q : Int} {f : Int → Int} (hS : 1 ≤ S ∧ S ≤ 8) (h1 : 0 ≤ xa ∧ xa ≤ S) (h2 : 0 ≤ ya ∧ ya ≤ S) (h3 : 0 ≤ xb ∧ xb ≤ S) (h4 : 0 ≤ yb ∧ yb ≤ S) (h : mInv S xa ya xb yb o i m q f) (hi : i < 8 * lenP xa ya xb yb) (hne : sqm S xa ya xb yb i ≠ q) : mInv S xa ya xb yb o (i + 1) (m + 1) (sqm S xa ya xb yb i) (up1 f (o + m) (sqm S xa ya xb yb i * 16 + 1)) := by
  obtain ⟨hA, hm, hB, hC, hD, hE⟩ := h
  have hin := sqm_in hS.1 h1 h2 h3 h4 (i := i) (by omega)
  have hsq : 0 ≤ sqm S xa ya xb yb i ∧ sqm S xa ya xb yb i < 64 := by unfold sqm; omega
  have hold : ∀ c, 0 ≤ c → c < m → up1 f (o + m) (sqm S xa ya xb yb i * 16 + 1) (o + c) = f (o + c) := fun c _ hc => up1_n (by omega)
  have hfresh : ∀ c, 0 ≤ c → c < m → f (o + c) / 16 ≠ sqm S xa ya xb yb i := by
    intro c c1 c2 hc
    obtain ⟨-, j, hj, hjs⟩ := hC c c1 c2
    rcases hB with hB | hB
    · omega
    · have := sqm_between hS h1 h2 h3 h4 (i := j) (j := i - 1) (k := i) (by omega) (by omega) (by omega) hi (by rw [hjs]; exact hc)
      exact hne (by rw [hB.2.2.1]; exact this.symm)
  have h0 : 0 ≤ sqD S xa ya xb yb i := by unfold sqD; omega
  refine ⟨by omega, by omega, Or.inr ⟨by omega, ?_, by rw [show i + 1 - 1 = i by omega], ?_, i, by omega, rfl, ?_⟩, ?_, ?_, ?_⟩
  · rw [show i + 1 - 1 = i by omega]
    rcases hB with hB | hB
    · omega
    · have hst := sqD_step hS h1 h2 h3 h4 (i := i) (by omega)
      have := hst.2 (by rw [← hB.2.2.1]; exact Ne.symm hne)
      omega
  · rw [show o + (m + 1 - 1) = o + m by omega, up1_s]; omega
  · rw [show o + (m + 1 - 1) = o + m by omega, up1_s]; omega
  · intro c c1 c2
    by_cases hc : c = m
    · subst hc
      rw [up1_s]
      exact ⟨by omega, i, by omega, by omega⟩
    · rw [hold c c1 (by omega)]
      obtain ⟨a, j, hj, hjs⟩ := hC c c1 (by omega)
      exact ⟨a, j, by omega, hjs⟩
  · intro c d c1 c2 d1 d2 he
    by_cases hc : c = m
    · by_cases hd : d = m
      · omega
      · subst hc
        rw [up1_s, hold d d1 (by omega)] at he
        exact absurd (show f (o + d) / 16 = sqm S xa ya xb yb i by omega) (hfresh d d1 (by omega))
    · by_cases hd : d = m
      · subst hd
        rw [up1_s, hold c c1 (by omega)] at he
        exact absurd (show f (o + c) / 16 = sqm S xa ya xb yb i by omega) (hfresh c c1 (by omega))
      · rw [hold c c1 (by omega), hold d d1 (by omega)] at he
        exact hD c d c1 (by omega) d1 (by omega) he
  · intro k
    have e1 := sumN_toNat (fun j => if sqm S xa ya xb yb j = k then 1 else 0) hA.1
    have e2 : clS (up1 f (o + m) (sqm S xa ya xb yb i * 16 + 1)) o k (m + 1).toNat = clS f o k m.toNat + (if sqm S xa ya xb yb i = k then 1 else 0) := by
      unfold clS
      rw [sumN_toNat _ hm]
      congr 1
      · exact sumN_congr (fun c c1 c2 => by rw [hold c c1 (by omega)])
      · rw [up1_s]
        by_cases hk : sqm S xa ya xb yb i = k
        · rw [if_pos (by omega), if_pos hk]; omega
        · rw [if_neg (by omega), if_neg hk]
    rw [e1, e2, hE k]
theorem mInv_same {S xa ya xb yb o i m q : Int} {f : Int → Int} (hS : 1 ≤ S ∧ S ≤ 8) (h1 : 0 ≤ xa ∧ xa ≤ S) (h2 : 0 ≤ ya ∧ ya ≤ S) (h3 : 0 ≤ xb ∧ xb ≤ S) (h4 : 0 ≤ yb ∧ yb ≤ S) (hL : 1 ≤ lenP xa ya xb yb) (h : mInv S xa ya xb yb o i m q f) (hi : i < 8 * lenP xa ya xb yb) (heq : sqm S xa ya xb yb i = q) : 1 ≤ m ∧ mInv S xa ya xb yb o (i + 1) m q (up1 f (o + (m - 1)) (f (o + (m - 1)) + 1)) := by
  obtain ⟨hA, hm, hB, hC, hD, hE⟩ := h
  have hin := sqm_in hS.1 h1 h2 h3 h4 (i := i) (by omega)
  have hsq : 0 ≤ sqm S xa ya xb yb i ∧ sqm S xa ya xb yb i < 64 := by unfold sqm; omega
  rcases hB with hB | hB
  · omega
  obtain ⟨hB1, hB2, hB3, hB4, i0, hi0, hs0, hc0⟩ := hB
  have hn := sqm_near hS h1 h2 h3 h4 (i := i0) (j := i) (by omega) (by omega) hL (by rw [hs0, heq])
  have hlast := (hC (m - 1) (by omega) (by omega)).1
  have hd16 : (f (o + (m - 1)) + 1) / 16 = f (o + (m - 1)) / 16 ∧ (f (o + (m - 1)) + 1) % 16 = f (o + (m - 1)) % 16 + 1 := by omega
  have hold : ∀ c, 0 ≤ c → c < m - 1 → up1 f (o + (m - 1)) (f (o + (m - 1)) + 1) (o + c) = f (o + c) := fun c _ hc => up1_n (by omega)
  have hdiv : ∀ c, 0 ≤ c → c < m → up1 f (o + (m - 1)) (f (o + (m - 1)) + 1) (o + c) / 16 = f (o + c) / 16 := by
    intro c c1 c2
    by_cases hc : c = m - 1
    · subst hc; rw [up1_s]; exact hd16.1
    · rw [hold c c1 (by omega)]
  refine ⟨hB1.2, by omega, hm, Or.inr ⟨by omega, ?_, by rw [show i + 1 - 1 = i by omega]; exact heq.symm, ?_, i0, by omega, hs0, ?_⟩, ?_, ?_, ?_⟩
  · rw [show i + 1 - 1 = i by omega]
    have hst := (sqD_step hS h1 h2 h3 h4 (i := i) (by omega)).1
    omega
  · rw [up1_s, hd16.1]; exact hB4
  · rw [up1_s, hd16.2]; omega
  · intro c c1 c2
    by_cases hc : c = m - 1
    · subst hc
      rw [up1_s]
      exact ⟨by omega, i, by omega, by rw [hd16.1, hB4]; exact heq⟩
    · rw [hold c c1 (by omega)]
      obtain ⟨a, j, hj, hjs⟩ := hC c c1 c2
      exact ⟨a, j, by omega, hjs⟩
  · intro c d c1 c2 d1 d2 he
    rw [hdiv c c1 c2, hdiv d d1 d2] at he
    exact hD c d c1 c2 d1 d2 he
  · intro k
    have e1 := sumN_toNat (fun j => if sqm S xa ya xb yb j = k then 1 else 0) hA.1
    have e2 : clS (up1 f (o + (m - 1)) (f (o + (m - 1)) + 1)) o k m.toNat = clS f o k m.toNat + (if sqm S xa ya xb yb i = k then 1 else 0) := by
      unfold clS
      rw [show m = (m - 1) + 1 by omega, sumN_toNat _ (by omega), sumN_toNat _ (by omega), show (m - 1) + 1 - 1 = m - 1 by omega]
      rw [sumN_congr (n := (m - 1).toNat) (f := fun c => if up1 f (o + (m - 1)) (f (o + (m - 1)) + 1) (o + c) / 16 = k then up1 f (o + (m - 1)) (f (o + (m - 1)) + 1) (o + c) % 16 else 0) (g := fun c => if f (o + c) / 16 = k then f (o + c) % 16 else 0) (fun c c1 c2 => by rw [hold c c1 (by omega)])]
      rw [up1_s, hd16.1, hd16.2]
      by_cases hk : sqm S xa ya xb yb i = k
      · rw [if_pos (by rw [hB4, ← heq]; exact hk), if_pos (by rw [hB4, ← heq]; exact hk), if_pos hk]; omega
      · rw [if_neg (by rw [hB4, ← heq]; exact hk), if_neg (by rw [hB4, ← heq]; exact hk), if_neg hk]; omega
    rw [e1, e2, hE k]
theorem mInv_first (S xa ya xb yb o : Int) (f : Int → Int) : mInv S xa ya xb yb o 0 0 (-1) f := by
  refine ⟨by unfold lenP; omega, by omega, Or.inl ⟨rfl, rfl, rfl⟩, fun c c1 c2 => by omega, fun c d c1 c2 => by omega, fun k => rfl⟩
theorem mInv_end {S xa ya xb yb o m q : Int} {f : Int → Int} (hS : 1 ≤ S ∧ S ≤ 8) (h1 : 0 ≤ xa ∧ xa ≤ S) (h2 : 0 ≤ ya ∧ ya ≤ S) (h3 : 0 ≤ xb ∧ xb ≤ S) (h4 : 0 ≤ yb ∧ yb ≤ S) (hL : 1 ≤ lenP xa ya xb yb) (h : mInv S xa ya xb yb o (8 * lenP xa ya xb yb) m q f) : gRow S xa ya xb yb f o m := by
  obtain ⟨hA, hm, hB, hC, hD, hE⟩ := h
  rcases hB with hB | hB
  · omega
  have := sqD_le hS h1 h2 h3 h4 (i := 8 * lenP xa ya xb yb - 1) (by omega)
  exact ⟨by omega, fun c c1 c2 => (hC c c1 c2).1, hD, hE⟩
theorem mInv_lt {S xa ya xb yb o i m q : Int} {f : Int → Int} (hS : 1 ≤ S ∧ S ≤ 8) (h1 : 0 ≤ xa ∧ xa ≤ S) (h2 : 0 ≤ ya ∧ ya ≤ S) (h3 : 0 ≤ xb ∧ xb ≤ S) (h4 : 0 ≤ yb ∧ yb ≤ S) (h : mInv S xa ya xb yb o i m q f) : (0 ≤ m ∧ m ≤ 15) ∧ (-1 ≤ q ∧ q < 64) := by
  obtain ⟨hA, hm, hB, -⟩ := h
  rcases hB with hB | hB
  · omega
  have := sqD_le hS h1 h2 h3 h4 (i := i - 1) (by omega)
  have hin := sqm_in hS.1 h1 h2 h3 h4 (i := i - 1) (by omega)
  have e := hB.2.2.1
  unfold sqm at e
  omega

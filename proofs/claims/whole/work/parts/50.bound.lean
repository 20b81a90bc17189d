/-! bounds -/
theorem mInv_ex {S xa ya xb yb : Int} (hS : 1 ≤ S ∧ S ≤ 8) (h1 : 0 ≤ xa ∧ xa ≤ S) (h2 : 0 ≤ ya ∧ ya ≤ S) (h3 : 0 ≤ xb ∧ xb ≤ S) (h4 : 0 ≤ yb ∧ yb ≤ S) (hL : 1 ≤ lenP xa ya xb yb) : ∀ n : Nat, (n : Int) ≤ 8 * lenP xa ya xb yb → ∃ m q f, mInv S xa ya xb yb 0 (n : Int) m q f
  | 0, _ => ⟨0, -1, fun _ => 0, mInv_first _ _ _ _ _ _ _⟩
  | n + 1, h => by
    obtain ⟨m, q, f, hm⟩ := mInv_ex hS h1 h2 h3 h4 hL n (by omega)
    rw [show ((n + 1 : Nat) : Int) = (n : Int) + 1 by omega]
    by_cases hq : sqm S xa ya xb yb (n : Int) = q
    · exact ⟨m, q, _, (mInv_same hS h1 h2 h3 h4 hL hm (by omega) hq).2⟩
    · exact ⟨_, _, _, mInv_new hS h1 h2 h3 h4 hm (by omega) hq⟩
theorem gRow_ex {S xa ya xb yb : Int} (hS : 1 ≤ S ∧ S ≤ 8) (h1 : 0 ≤ xa ∧ xa ≤ S) (h2 : 0 ≤ ya ∧ ya ≤ S) (h3 : 0 ≤ xb ∧ xb ≤ S) (h4 : 0 ≤ yb ∧ yb ≤ S) (hL : 1 ≤ lenP xa ya xb yb) : ∃ f m, gRow S xa ya xb yb f 0 m := by
  obtain ⟨m, q, f, hm⟩ := mInv_ex hS h1 h2 h3 h4 hL (8 * lenP xa ya xb yb).toNat (by omega)
  rw [show ((8 * lenP xa ya xb yb).toNat : Int) = 8 * lenP xa ya xb yb by omega] at hm
  exact ⟨f, m, mInv_end hS h1 h2 h3 h4 hL hm⟩
theorem gRow_bd {S xa ya xb yb o m : Int} {f : Int → Int} (h : gRow S xa ya xb yb f o m) (k : Int) : 0 ≤ smpL S xa ya xb yb k ∧ smpL S xa ya xb yb k ≤ 8 := by
  rw [h.2.2.2 k]
  show 0 ≤ clS f o k m.toNat ∧ clS f o k m.toNat ≤ 8
  by_cases hc : ∃ c : Int, 0 ≤ c ∧ c < m ∧ f (o + c) / 16 = k
  · obtain ⟨c, c1, c2, c3⟩ := hc
    rw [clS_at (fun c d a1 a2 d1 d2 q => h.2.2.1 c d a1 (by omega) d1 (by omega) q) c1 (by omega) c3]
    have := h.2.1 c c1 c2
    omega
  · rw [clS_no (fun c c1 c2 q => hc ⟨c, c1, by omega, q⟩)]
    omega
theorem smp_bd {S n : Int} {px py : Int → Int} (hG : gPin S n px py) {a b : Int} (ha : 0 ≤ a ∧ a < n) (hb : 0 ≤ b ∧ b < n) (hab : a ≠ b) (k : Int) : 0 ≤ smp S px py a b k ∧ smp S px py a b k ≤ 8 := by
  have h1 := gPin_at hG (a := min a b) (by omega) (by omega)
  have h2 := gPin_at hG (a := max a b) (by omega) (by omega)
  have hL := lenP_pos hG (a := min a b) (b := max a b) (by omega) (by omega) (by omega) (by omega) (by omega)
  have hS := hG.1
  obtain ⟨f, m, hr⟩ := gRow_ex (by omega) h1.2.1 h1.2.2 h2.2.1 h2.2.2 hL.1
  exact gRow_bd hr k
/-- outside of the board nothing is -/
theorem smp_out {S n : Int} {px py : Int → Int} (hG : gPin S n px py) {a b : Int} (ha : 0 ≤ a ∧ a < n) (hb : 0 ≤ b ∧ b < n) (hab : a ≠ b) {k : Int} (hk : ¬ (k % 8 < S ∧ k / 8 < S)) : smp S px py a b k = 0 := by
  have h1 := gPin_at hG (a := min a b) (by omega) (by omega)
  have h2 := gPin_at hG (a := max a b) (by omega) (by omega)
  have hS := hG.1
  refine sumN_zero (fun i i1 i2 => if_neg (fun q => hk ?_))
  have hi := sqm_in (S := S) (by omega) h1.2.1 h1.2.2 h2.2.1 h2.2.2 (i := i) (by omega)
  unfold sqm at q
  omega
theorem wsum_bd {G : Int → Int → Int → Int} {cnt row : Int → Int} {n c : Int} (hW : gWnd n cnt row) (hc : 0 ≤ c) (h : ∀ t i, 0 ≤ t → t < 3 → 0 ≤ i → i + 1 < cnt t → 0 ≤ G t (row (120 * t + i)) (row (120 * t + i + 1)) ∧ G t (row (120 * t + i)) (row (120 * t + i + 1)) ≤ c) : 0 ≤ wsum G cnt row ∧ wsum G cnt row ≤ 3 * (119 * c) := by
  have := sumN_bound (f := fun t => sumN (fun i => G t (row (120 * t + i)) (row (120 * t + i + 1))) (cnt t - 1).toNat) (c := 119 * c) (by omega) (n := 3) (fun t t1 t2 => by
    have h1 := sumN_bound (f := fun i => G t (row (120 * t + i)) (row (120 * t + i + 1))) hc (n := (cnt t - 1).toNat) (fun i i1 i2 => h t i t1 (by omega) i1 (by omega))
    have hb := (hW t t1 (by omega)).1
    have h2 : ((cnt t - 1).toNat : Int) * c ≤ 119 * c := Int.mul_le_mul_of_nonneg_right (by omega) hc
    exact ⟨h1.1, by omega⟩)
  exact this
theorem wsum_zero {G : Int → Int → Int → Int} {cnt row : Int → Int} (h : ∀ t i, 0 ≤ t → t < 3 → 0 ≤ i → i + 1 < cnt t → G t (row (120 * t + i)) (row (120 * t + i + 1)) = 0) : wsum G cnt row = 0 :=
  sumN_zero (fun t t1 t2 => sumN_zero (fun i i1 i2 => h t i t1 (by omega) i1 (by omega)))
def gShd (sh : Int → Int) : Prop := ∀ t, 0 ≤ t → t < 3 → 0 ≤ sh t ∧ sh t ≤ 9
theorem shd_mul {x z : Int} (hx : 0 ≤ x ∧ x ≤ 9) (hz : 0 ≤ z ∧ z ≤ 8) : 0 ≤ x * z ∧ x * z ≤ 72 := by
  have h1 := Int.mul_nonneg hx.1 hz.1
  have h2 := (mul_bd (x := x) (z := z) (by omega) hz).2
  omega
theorem wnd_at {n : Int} {cnt row : Int → Int} (hW : gWnd n cnt row) {t i : Int} (h1 : 0 ≤ t) (h2 : t < 3) (h3 : 0 ≤ i) (h4 : i + 1 < cnt t) : (0 ≤ row (120 * t + i) ∧ row (120 * t + i) < n) ∧ (0 ≤ row (120 * t + i + 1) ∧ row (120 * t + i + 1) < n) ∧ row (120 * t + i) ≠ row (120 * t + i + 1) := by
  have h := hW t h1 h2
  have a := h.2.1 i h3 (by omega)
  have b := h.2.1 (i + 1) (by omega) (by omega)
  rw [show 120 * t + (i + 1) = 120 * t + i + 1 by omega] at b
  exact ⟨a, b, h.2.2 i h3 h4⟩
theorem dk_bd {S n : Int} {px py cnt row sh : Int → Int} (hG : gPin S n px py) (hW : gWnd n cnt row) (hs : gShd sh) (k : Int) : 0 ≤ dk S px py cnt row sh k ∧ dk S px py cnt row sh k ≤ 25704 := by
  rw [dk_w]
  have := wsum_bd (G := fun t x y => sh t * smp S px py x y k) (c := 72) hW (by omega) (fun t i h1 h2 h3 h4 => by
    have w := wnd_at hW h1 h2 h3 h4
    exact shd_mul (hs t h1 h2) (smp_bd hG w.1 w.2.1 w.2.2 k))
  omega
theorem dk_out {S n : Int} {px py cnt row sh : Int → Int} (hG : gPin S n px py) (hW : gWnd n cnt row) {k : Int} (hk : ¬ (k % 8 < S ∧ k / 8 < S)) : dk S px py cnt row sh k = 0 := by
  rw [dk_w]
  exact wsum_zero (fun t i h1 h2 h3 h4 => by
    have w := wnd_at hW h1 h2 h3 h4
    rw [smp_out hG w.1 w.2.1 w.2.2 hk]; omega)
/-- the reference's FAR is the class's, where nothing is wanted and nothing dark outside of the board -/
theorem farM_S {S p : Int} {w want d : Int → Int} (h : ∀ k, 0 ≤ k → k < 64 → ¬ (k % 8 < S ∧ k / 8 < S) → want (64 * p + k) = 0 ∧ d k = 0) : farM S w want d p = farS (fun k => w k + 1) want d p := by
  refine sumN_congr (fun k k1 k2 => ?_)
  by_cases hk : k % 8 < S ∧ k / 8 < S
  · rw [if_pos hk]
  · rw [if_neg hk, (h k k1 (by omega) hk).1, (h k k1 (by omega) hk).2]
    simp
theorem farS_congr {p : Int} {w w2 want want2 d d2 : Int → Int} (h : ∀ k, 0 ≤ k → k < 64 → w k = w2 k ∧ want (64 * p + k) = want2 (64 * p + k) ∧ d k = d2 k) : farS w want d p = farS w2 want2 d2 p :=
  sumN_congr (fun k k1 k2 => by rw [(h k k1 (by omega)).1, (h k k1 (by omega)).2.1, (h k k1 (by omega)).2.2])
/-- FAR with a line more is FAR less the gain -/
theorem farS_gain {p x : Int} {w want d d2 sm : Int → Int} (h : ∀ k, 0 ≤ k → k < 64 → d2 k = d k + x * sm k) : farS w want d2 p = farS w want d p - gainS w want d sm p x := by
  unfold farS gainS
  rw [← sumN_sub]
  refine sumN_congr (fun k k1 k2 => ?_)
  rw [h k k1 (by omega), ← Int.mul_sub, show want (64 * p + k) - (d k + x * sm k) = want (64 * p + k) - d k - x * sm k by omega]
  congr 1
  omega
theorem farS_bd {p : Int} {w want d : Int → Int} (hw : ∀ k, 0 ≤ k → k < 64 → 0 ≤ w k ∧ w k ≤ 9) (hn : ∀ k, 0 ≤ k → k < 64 → 0 ≤ want (64 * p + k) ∧ want (64 * p + k) ≤ 999) (hd : ∀ k, 0 ≤ k → k < 64 → -100 ≤ d k ∧ d k ≤ 30000) : 0 ≤ farS w want d p ∧ farS w want d p ≤ 17856000 := by
  have := sumN_bound (f := fun k => w k * ((want (64 * p + k) - d k).natAbs : Int)) (c := 279000) (by omega) (n := 64) (fun k k1 k2 => by
    have a := hw k k1 (by omega)
    have b := hn k k1 (by omega)
    have c := hd k k1 (by omega)
    have e : 0 ≤ ((want (64 * p + k) - d k).natAbs : Int) ∧ ((want (64 * p + k) - d k).natAbs : Int) ≤ 31000 := by omega
    exact ⟨Int.mul_nonneg a.1 e.1, Int.le_trans (Int.mul_le_mul a.2 e.2 e.1 (by omega)) (by omega)⟩)
  exact this
theorem sumN_abs {f : Int → Int} {c : Int} (hc : 0 ≤ c) : ∀ {n : Nat}, (∀ i : Int, 0 ≤ i → i < n → -c ≤ f i ∧ f i ≤ c) → -(n * c) ≤ sumN f n ∧ sumN f n ≤ n * c
  | 0, _ => by simp [sumN]
  | n + 1, h => by
    have h1 := sumN_abs hc (n := n) (fun i a b => h i a (by omega))
    have h2 := h n (by omega) (by omega)
    rw [sumN_succ]
    have e : ((n + 1 : Nat) : Int) * c = n * c + c := by rw [show ((n + 1 : Nat) : Int) = (n : Int) + 1 by omega, Int.add_mul, Int.one_mul]
    omega
theorem gainS_bd {p x : Int} {w want d sm : Int → Int} (hw : ∀ k, 0 ≤ k → k < 64 → 0 ≤ w k ∧ w k ≤ 9) (hx : -9 ≤ x ∧ x ≤ 9) (hs : ∀ k, 0 ≤ k → k < 64 → 0 ≤ sm k ∧ sm k ≤ 8) : -41472 ≤ gainS w want d sm p x ∧ gainS w want d sm p x ≤ 41472 := by
  have := sumN_abs (f := fun k => w k * (((want (64 * p + k) - d k).natAbs : Int) - ((want (64 * p + k) - d k - x * sm k).natAbs : Int))) (c := 648) (by omega) (n := 64) (fun k k1 k2 => by
    have a := hw k k1 (by omega)
    have b := mul_bd hx (hs k k1 (by omega))
    have e : -72 ≤ ((want (64 * p + k) - d k).natAbs : Int) - ((want (64 * p + k) - d k - x * sm k).natAbs : Int) ∧ ((want (64 * p + k) - d k).natAbs : Int) - ((want (64 * p + k) - d k - x * sm k).natAbs : Int) ≤ 72 := by omega
    generalize ((want (64 * p + k) - d k).natAbs : Int) - ((want (64 * p + k) - d k - x * sm k).natAbs : Int) = y at e ⊢
    have m1 : w k * y ≤ w k * 72 := Int.mul_le_mul_of_nonneg_left e.2 a.1
    have m2 : w k * (-72) ≤ w k * y := Int.mul_le_mul_of_nonneg_left e.1 a.1
    omega)
  exact this

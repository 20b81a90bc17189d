/-! lines as rows of cells: monotone, no square twice, at most eight middles in one, at most fifteen squares -/
theorem mdl_mono {S xa xb N i j : Int} (hN : 0 < N) (hij : i ≤ j) : (xa ≤ xb → mdl S xa xb N i ≤ mdl S xa xb N j) ∧ (xb ≤ xa → mdl S xa xb N j ≤ mdl S xa xb N i) := by
  unfold mdl
  constructor
  · intro h
    have h1 : (xb - xa) * (2 * i + 1) ≤ (xb - xa) * (2 * j + 1) := Int.mul_le_mul_of_nonneg_left (by omega) (by omega)
    have h2 := Int.ediv_le_ediv (show 0 < 2 * N by omega) (show xa * 2 * N + (xb - xa) * (2 * i + 1) ≤ xa * 2 * N + (xb - xa) * (2 * j + 1) by omega)
    omega
  · intro h
    have h1 : (xa - xb) * (2 * i + 1) ≤ (xa - xb) * (2 * j + 1) := Int.mul_le_mul_of_nonneg_left (by omega) (by omega)
    have e : ∀ z : Int, (xb - xa) * z = - ((xa - xb) * z) := fun z => by rw [← Int.neg_mul]; congr 1; omega
    have h2 := Int.ediv_le_ediv (show 0 < 2 * N by omega) (show xa * 2 * N + (xb - xa) * (2 * j + 1) ≤ xa * 2 * N + (xb - xa) * (2 * i + 1) by rw [e, e]; omega)
    omega
/-- the axis along which the line is long -/
theorem mdl_long {S xa xb D i : Int} (hD : 1 ≤ D) (hd : xb - xa = D ∨ xb - xa = -D) (ha : 0 ≤ xa ∧ xa ≤ S) (hb : 0 ≤ xb ∧ xb ≤ S) (hi : 0 ≤ i ∧ i < 8 * D) : mdl S xa xb (8 * D) i = (if xb - xa = D then xa + (2 * i + 1) / 16 else (16 * xa - (2 * i + 1)) / 16) := by
  unfold mdl
  rcases hd with h | h
  · rw [if_pos h]
    have e : xa * 2 * (8 * D) + (xb - xa) * (2 * i + 1) = (16 * xa + (2 * i + 1)) * D := by rw [h]; grind
    have e2 : 2 * (8 * D) = 16 * D := by omega
    rw [e, e2, Int.mul_ediv_mul_of_pos_left _ _ (by omega)]
    omega
  · rw [if_neg (by omega)]
    have e : xa * 2 * (8 * D) + (xb - xa) * (2 * i + 1) = (16 * xa - (2 * i + 1)) * D := by rw [h]; grind
    have e2 : 2 * (8 * D) = 16 * D := by omega
    rw [e, e2, Int.mul_ediv_mul_of_pos_left _ _ (by omega)]
    omega
theorem sqm_split {S xa ya xb yb i j : Int} (hS : 1 ≤ S ∧ S ≤ 8) (h1 : 0 ≤ xa ∧ xa ≤ S) (h2 : 0 ≤ ya ∧ ya ≤ S) (h3 : 0 ≤ xb ∧ xb ≤ S) (h4 : 0 ≤ yb ∧ yb ≤ S) (hi : 0 ≤ i ∧ i < 8 * lenP xa ya xb yb) (hj : 0 ≤ j ∧ j < 8 * lenP xa ya xb yb) : sqm S xa ya xb yb i = sqm S xa ya xb yb j ↔ mdl S xa xb (8 * lenP xa ya xb yb) i = mdl S xa xb (8 * lenP xa ya xb yb) j ∧ mdl S ya yb (8 * lenP xa ya xb yb) i = mdl S ya yb (8 * lenP xa ya xb yb) j := by
  have a := sqm_in hS.1 h1 h2 h3 h4 hi
  have b := sqm_in hS.1 h1 h2 h3 h4 hj
  unfold sqm
  omega
theorem sqm_near {S xa ya xb yb i j : Int} (hS : 1 ≤ S ∧ S ≤ 8) (h1 : 0 ≤ xa ∧ xa ≤ S) (h2 : 0 ≤ ya ∧ ya ≤ S) (h3 : 0 ≤ xb ∧ xb ≤ S) (h4 : 0 ≤ yb ∧ yb ≤ S) (hi : 0 ≤ i ∧ i < 8 * lenP xa ya xb yb) (hj : 0 ≤ j ∧ j < 8 * lenP xa ya xb yb) (hL : 1 ≤ lenP xa ya xb yb) (h : sqm S xa ya xb yb i = sqm S xa ya xb yb j) : j - i ≤ 7 := by
  have hs := (sqm_split hS h1 h2 h3 h4 hi hj).mp h
  have hx : (xb - xa = lenP xa ya xb yb ∨ xb - xa = -lenP xa ya xb yb) ∨ (yb - ya = lenP xa ya xb yb ∨ yb - ya = -lenP xa ya xb yb) := by unfold lenP; omega
  rcases hx with q | q
  · have e1 := mdl_long hL q h1 h3 hi
    have e2 := mdl_long hL q h1 h3 hj
    rw [e1, e2] at hs
    have := hs.1
    split at this <;> omega
  · have e1 := mdl_long hL q h2 h4 hi
    have e2 := mdl_long hL q h2 h4 hj
    rw [e1, e2] at hs
    have := hs.2
    split at this <;> omega
/-- what lies between two like ones is like them -/
theorem sqm_between {S xa ya xb yb i j k : Int} (hS : 1 ≤ S ∧ S ≤ 8) (h1 : 0 ≤ xa ∧ xa ≤ S) (h2 : 0 ≤ ya ∧ ya ≤ S) (h3 : 0 ≤ xb ∧ xb ≤ S) (h4 : 0 ≤ yb ∧ yb ≤ S) (hi : 0 ≤ i) (hij : i ≤ j) (hjk : j ≤ k) (hk : k < 8 * lenP xa ya xb yb) (h : sqm S xa ya xb yb i = sqm S xa ya xb yb k) : sqm S xa ya xb yb j = sqm S xa ya xb yb k := by
  have hs := (sqm_split hS h1 h2 h3 h4 (i := i) (j := k) (by omega) (by omega)).mp h
  refine (sqm_split hS h1 h2 h3 h4 (i := j) (j := k) (by omega) (by omega)).mpr ?_
  have a1 := mdl_mono (S := S) (xa := xa) (xb := xb) (N := 8 * lenP xa ya xb yb) (by omega) hij
  have a2 := mdl_mono (S := S) (xa := xa) (xb := xb) (N := 8 * lenP xa ya xb yb) (by omega) hjk
  have b1 := mdl_mono (S := S) (xa := ya) (xb := yb) (N := 8 * lenP xa ya xb yb) (by omega) hij
  have b2 := mdl_mono (S := S) (xa := ya) (xb := yb) (N := 8 * lenP xa ya xb yb) (by omega) hjk
  rcases (show xa ≤ xb ∨ xb ≤ xa by omega) with q | q <;> rcases (show ya ≤ yb ∨ yb ≤ ya by omega) with w | w
  · have := a1.1 q; have := a2.1 q; have := b1.1 w; have := b2.1 w; omega
  · have := a1.1 q; have := a2.1 q; have := b1.2 w; have := b2.2 w; omega
  · have := a1.2 q; have := a2.2 q; have := b1.1 w; have := b2.1 w; omega
  · have := a1.2 q; have := a2.2 q; have := b1.2 w; have := b2.2 w; omega
/-- how far the square of part i lies from that of part 0 -/
def sqD (S xa ya xb yb i : Int) : Int := ((mdl S xa xb (8 * lenP xa ya xb yb) i - mdl S xa xb (8 * lenP xa ya xb yb) 0).natAbs : Int) + ((mdl S ya yb (8 * lenP xa ya xb yb) i - mdl S ya yb (8 * lenP xa ya xb yb) 0).natAbs : Int)
theorem sqD_le {S xa ya xb yb i : Int} (hS : 1 ≤ S ∧ S ≤ 8) (h1 : 0 ≤ xa ∧ xa ≤ S) (h2 : 0 ≤ ya ∧ ya ≤ S) (h3 : 0 ≤ xb ∧ xb ≤ S) (h4 : 0 ≤ yb ∧ yb ≤ S) (hi : 0 ≤ i ∧ i < 8 * lenP xa ya xb yb) : sqD S xa ya xb yb i ≤ 14 := by
  have a := sqm_in hS.1 h1 h2 h3 h4 hi
  have b := sqm_in hS.1 h1 h2 h3 h4 (i := 0) (by omega)
  unfold sqD
  omega
theorem sqD_step {S xa ya xb yb i : Int} (hS : 1 ≤ S ∧ S ≤ 8) (h1 : 0 ≤ xa ∧ xa ≤ S) (h2 : 0 ≤ ya ∧ ya ≤ S) (h3 : 0 ≤ xb ∧ xb ≤ S) (h4 : 0 ≤ yb ∧ yb ≤ S) (hi : 1 ≤ i ∧ i < 8 * lenP xa ya xb yb) : sqD S xa ya xb yb (i - 1) ≤ sqD S xa ya xb yb i ∧ (sqm S xa ya xb yb (i - 1) ≠ sqm S xa ya xb yb i → sqD S xa ya xb yb (i - 1) + 1 ≤ sqD S xa ya xb yb i) := by
  have hs := sqm_split hS h1 h2 h3 h4 (i := i - 1) (j := i) (by omega) (by omega)
  have a1 := mdl_mono (S := S) (xa := xa) (xb := xb) (N := 8 * lenP xa ya xb yb) (i := 0) (j := i - 1) (by omega) (by omega)
  have a2 := mdl_mono (S := S) (xa := xa) (xb := xb) (N := 8 * lenP xa ya xb yb) (i := i - 1) (j := i) (by omega) (by omega)
  have b1 := mdl_mono (S := S) (xa := ya) (xb := yb) (N := 8 * lenP xa ya xb yb) (i := 0) (j := i - 1) (by omega) (by omega)
  have b2 := mdl_mono (S := S) (xa := ya) (xb := yb) (N := 8 * lenP xa ya xb yb) (i := i - 1) (j := i) (by omega) (by omega)
  have key : ∀ P Q : Prop, (P ↔ Q) → (¬ P ↔ ¬ Q) := fun P Q h => by constructor <;> intro x y <;> exact x (by first | exact h.mp y | exact h.mpr y)
  have hs2 := key _ _ hs
  unfold sqD
  refine ⟨?_, fun hne => ?_⟩
  · rcases (show xa ≤ xb ∨ xb ≤ xa by omega) with q | q <;> rcases (show ya ≤ yb ∨ yb ≤ ya by omega) with w | w
    · have := a1.1 q; have := a2.1 q; have := b1.1 w; have := b2.1 w; omega
    · have := a1.1 q; have := a2.1 q; have := b1.2 w; have := b2.2 w; omega
    · have := a1.2 q; have := a2.2 q; have := b1.1 w; have := b2.1 w; omega
    · have := a1.2 q; have := a2.2 q; have := b1.2 w; have := b2.2 w; omega
  · have hx := hs2.mp hne
    rcases (show xa ≤ xb ∨ xb ≤ xa by omega) with q | q <;> rcases (show ya ≤ yb ∨ yb ≤ ya by omega) with w | w
    · have := a1.1 q; have := a2.1 q; have := b1.1 w; have := b2.1 w; omega
    · have := a1.1 q; have := a2.1 q; have := b1.2 w; have := b2.2 w; omega
    · have := a1.2 q; have := a2.2 q; have := b1.1 w; have := b2.1 w; omega
    · have := a1.2 q; have := a2.2 q; have := b1.2 w; have := b2.2 w; omega
/-- the number of the line of two pins -/
def chN (a b : Int) : Int := max a b * (max a b - 1) / 2 + min a b
theorem tri_le {h : Int} (h1 : 0 ≤ h) (h2 : h ≤ 23) : 0 ≤ h * (h - 1) / 2 ∧ h * (h - 1) / 2 + h ≤ 276 ∧ h * (h - 1) / 2 + h = (h + 1) * h / 2 ∧ (0 ≤ h * (h - 1) ∧ h * (h - 1) ≤ 506) := by
  have : ∀ n : Fin 24, (0 ≤ ((n.val : Int)) * ((n.val : Int) - 1) / 2 ∧ ((n.val : Int)) * ((n.val : Int) - 1) / 2 + (n.val : Int) ≤ 276 ∧ ((n.val : Int)) * ((n.val : Int) - 1) / 2 + (n.val : Int) = ((n.val : Int) + 1) * (n.val : Int) / 2 ∧ (0 ≤ ((n.val : Int)) * ((n.val : Int) - 1) ∧ ((n.val : Int)) * ((n.val : Int) - 1) ≤ 506)) := by decide +kernel
  have h3 := this ⟨h.toNat, by omega⟩
  simp only [Int.toNat_of_nonneg h1] at h3
  exact h3
theorem tri_mono {g h : Int} (h0 : 0 ≤ g) (h1 : g < h) (h2 : h ≤ 23) : g * (g - 1) / 2 + g ≤ h * (h - 1) / 2 := by
  have : ∀ n m : Fin 24, n.val < m.val → ((n.val : Int)) * ((n.val : Int) - 1) / 2 + (n.val : Int) ≤ ((m.val : Int)) * ((m.val : Int) - 1) / 2 := by decide +kernel
  have h3 := this ⟨g.toNat, by omega⟩ ⟨h.toNat, by omega⟩ (by show g.toNat < h.toNat; omega)
  simp only [Int.toNat_of_nonneg h0, Int.toNat_of_nonneg (show 0 ≤ h by omega)] at h3
  exact h3
theorem chN_in {a b : Int} (ha : 0 ≤ a ∧ a < 24) (hb : 0 ≤ b ∧ b < 24) (hab : a ≠ b) : 0 ≤ chN a b ∧ chN a b < 276 := by
  have := tri_le (h := max a b) (by omega) (by omega)
  unfold chN
  omega
theorem chN_inj {a b x y : Int} (ha : 0 ≤ a ∧ a < 24) (hb : 0 ≤ b ∧ b < 24) (hab : a ≠ b) (hx : 0 ≤ x ∧ x < 24) (hy : 0 ≤ y ∧ y < 24) (hxy : x ≠ y) (h : chN a b = chN x y) : min a b = min x y ∧ max a b = max x y := by
  unfold chN at h
  rcases Int.lt_trichotomy (max a b) (max x y) with q | q | q
  · have := tri_mono (by omega) q (by omega); omega
  · rw [q] at h; omega
  · have := tri_mono (by omega) q (by omega); omega
theorem chN_comm (a b : Int) : chN a b = chN b a := by
  unfold chN
  rw [show max b a = max a b by omega, show min b a = min a b by omega]
/-- the cells of a line: its squares, each once, with how many middles -/
def gRow (S xa ya xb yb : Int) (cl : Int → Int) (o m : Int) : Prop := (1 ≤ m ∧ m ≤ 15) ∧ (∀ c, 0 ≤ c → c < m → (0 ≤ cl (o + c) ∧ cl (o + c) < 1024) ∧ 1 ≤ cl (o + c) % 16 ∧ cl (o + c) % 16 ≤ 8) ∧ (∀ c d, 0 ≤ c → c < m → 0 ≤ d → d < m → cl (o + c) / 16 = cl (o + d) / 16 → c = d) ∧ ∀ k, smpL S xa ya xb yb k = sumN (fun c => if cl (o + c) / 16 = k then cl (o + c) % 16 else 0) m.toNat
/-- the lines that are kept -/
def gChd (S n : Int) (px py cl sz : Int → Int) : Prop := (∀ a b, 0 ≤ a → a < b → b < n → sz (chN a b) = 0 ∨ gRow S (px a) (py a) (px b) (py b) cl (chN a b * 16) (sz (chN a b))) ∧ ∀ a b, 0 ≤ a → a < b → n ≤ b → b < 24 → sz (chN a b) = 0

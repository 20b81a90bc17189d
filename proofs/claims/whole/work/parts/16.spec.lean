/-! THE MATHEMATICS: samples of a line, darkness, how far it is off -/
def sumN (f : Int → Int) : Nat → Int
  | 0 => 0
  | n + 1 => sumN f n + f (n : Int)
theorem sumN_congr {f g : Int → Int} : ∀ {n : Nat}, (∀ i : Int, 0 ≤ i → i < n → f i = g i) → sumN f n = sumN g n
  | 0, _ => rfl
  | n + 1, h => by
    show sumN f n + f n = sumN g n + g n
    rw [sumN_congr (n := n) (fun i h1 h2 => h i h1 (by omega)), h n (by omega) (by omega)]
theorem sumN_zero {f : Int → Int} : ∀ {n : Nat}, (∀ i : Int, 0 ≤ i → i < n → f i = 0) → sumN f n = 0
  | 0, _ => rfl
  | n + 1, h => by
    show sumN f n + f n = 0
    rw [sumN_zero (n := n) (fun i h1 h2 => h i h1 (by omega)), h n (by omega) (by omega)]; rfl
theorem sumN_succ (f : Int → Int) (n : Nat) : sumN f (n + 1) = sumN f n + f (n : Int) := rfl
theorem sumN_toNat (f : Int → Int) {i : Int} (h : 0 ≤ i) : sumN f (i + 1).toNat = sumN f i.toNat + f i := by
  rw [show (i + 1).toNat = i.toNat + 1 by omega, sumN_succ, show ((i.toNat : Nat) : Int) = i by omega]
theorem sumN_bound {f : Int → Int} {c : Int} (hc : 0 ≤ c) : ∀ {n : Nat}, (∀ i : Int, 0 ≤ i → i < n → 0 ≤ f i ∧ f i ≤ c) → 0 ≤ sumN f n ∧ sumN f n ≤ n * c
  | 0, _ => by simp [sumN]
  | n + 1, h => by
    have h1 := sumN_bound hc (n := n) (fun i a b => h i a (by omega))
    have h2 := h n (by omega) (by omega)
    rw [sumN_succ]
    have e : ((n + 1 : Nat) : Int) * c = n * c + c := by rw [show ((n + 1 : Nat) : Int) = (n : Int) + 1 by omega, Int.add_mul, Int.one_mul]
    omega
theorem sumN_add (f g : Int → Int) : ∀ n : Nat, sumN (fun i => f i + g i) n = sumN f n + sumN g n
  | 0 => rfl
  | n + 1 => by rw [sumN_succ, sumN_succ, sumN_succ, sumN_add f g n]; omega
theorem sumN_sub (f g : Int → Int) : ∀ n : Nat, sumN (fun i => f i - g i) n = sumN f n - sumN g n
  | 0 => rfl
  | n + 1 => by rw [sumN_succ, sumN_succ, sumN_succ, sumN_sub f g n]; omega
theorem sumN_mul (c : Int) (f : Int → Int) : ∀ n : Nat, sumN (fun i => c * f i) n = c * sumN f n
  | 0 => (Int.mul_zero c).symm
  | n + 1 => by rw [sumN_succ, sumN_succ, sumN_mul c f n, Int.mul_add]
/-- a row with its first n places written -/
def wr (n : Int) (old new : Int → Int) : Int → Int := fun k => if 0 ≤ k ∧ k < n then new k else old k
theorem wr_in {n : Int} {old new : Int → Int} {k : Int} (h : 0 ≤ k ∧ k < n) : wr n old new k = new k := by simp [wr, h]
theorem wr_out {n : Int} {old new : Int → Int} {k : Int} (h : ¬ (0 ≤ k ∧ k < n)) : wr n old new k = old k := by simp only [wr]; rw [if_neg h]
theorem wr_zero (old new : Int → Int) : wr 0 old new = old := by
  funext k
  exact wr_out (by omega)
theorem wr_step {i v : Int} {old new : Int → Int} (hi : 0 ≤ i) (h : new i = v) : (fun j => if j = i then v else wr i old new j) = wr (i + 1) old new := by
  funext j
  by_cases h1 : j = i
  · subst h1; rw [if_pos rfl, wr_in (by omega), h]
  · rw [if_neg h1]
    by_cases h2 : 0 ≤ j ∧ j < i
    · rw [wr_in h2, wr_in (by omega)]
    · rw [wr_out h2, wr_out (by omega)]
theorem wr_wr {n : Int} {old new new2 : Int → Int} : wr n (wr n old new) new2 = wr n old new2 := by
  funext k
  by_cases h : 0 ≤ k ∧ k < n
  · rw [wr_in h, wr_in h]
  · rw [wr_out h, wr_out h, wr_out h]
theorem wr_congr {n : Int} {old new new2 : Int → Int} (h : ∀ k, 0 ≤ k → k < n → new k = new2 k) : wr n old new = wr n old new2 := by
  funext k
  by_cases h1 : 0 ≤ k ∧ k < n
  · rw [wr_in h1, wr_in h1, h k h1.1 h1.2]
  · rw [wr_out h1, wr_out h1]
/-- LENGTH -/
def lenP (xa ya xb yb : Int) : Int := max ((xa - xb).natAbs : Int) ((ya - yb).natAbs : Int)
/-- the middle of part i of N from a to b, as a number of a square -/
def mdl (S xa xb N i : Int) : Int := min ((xa * 2 * N + (xb - xa) * (2 * i + 1)) / (2 * N)) (S - 1)
theorem mdl_num {xa xb N i S : Int} (ha : 0 ≤ xa ∧ xa ≤ S) (hb : 0 ≤ xb ∧ xb ≤ S) (hi : 0 ≤ i ∧ i < N) : 0 ≤ xa * 2 * N + (xb - xa) * (2 * i + 1) ∧ xa * 2 * N + (xb - xa) * (2 * i + 1) ≤ S * (2 * N) := by
  have e : xa * 2 * N + (xb - xa) * (2 * i + 1) = xa * (2 * N - (2 * i + 1)) + xb * (2 * i + 1) := by grind
  have e2 : S * (2 * N) = S * (2 * N - (2 * i + 1)) + S * (2 * i + 1) := by grind
  rw [e, e2]
  have p1 : 0 ≤ 2 * N - (2 * i + 1) := by omega
  have p2 : 0 ≤ 2 * i + 1 := by omega
  have h1 := Int.mul_nonneg ha.1 p1
  have h2 := Int.mul_nonneg hb.1 p2
  have h3 := Int.mul_le_mul_of_nonneg_right ha.2 p1
  have h4 := Int.mul_le_mul_of_nonneg_right hb.2 p2
  omega
theorem mdl_in {S xa xb N i : Int} (hS : 1 ≤ S) (ha : 0 ≤ xa ∧ xa ≤ S) (hb : 0 ≤ xb ∧ xb ≤ S) (hi : 0 ≤ i ∧ i < N) : 0 ≤ mdl S xa xb N i ∧ mdl S xa xb N i ≤ S - 1 := by
  have h := mdl_num ha hb hi
  have h1 := Int.ediv_nonneg h.1 (show 0 ≤ 2 * N by omega)
  unfold mdl
  omega
/-- the square of the middle of part i -/
def sqm (S xa ya xb yb i : Int) : Int := mdl S xa xb (8 * lenP xa ya xb yb) i + 8 * mdl S ya yb (8 * lenP xa ya xb yb) i
/-- SAMPLES, from the lesser pin a to the greater b -/
def smpL (S xa ya xb yb k : Int) : Int := sumN (fun i => if sqm S xa ya xb yb i = k then 1 else 0) (8 * lenP xa ya xb yb).toNat
def smp (S : Int) (px py : Int → Int) (a b k : Int) : Int := smpL S (px (min a b)) (py (min a b)) (px (max a b)) (py (max a b)) k
theorem smp_comm (S : Int) (px py : Int → Int) (a b k : Int) : smp S px py a b k = smp S px py b a k := by
  unfold smp
  rw [show min b a = min a b by omega, show max b a = max a b by omega]
/-- DARK of a square -/
def dkT (S : Int) (px py cnt row sh : Int → Int) (t k : Int) (n : Nat) : Int := sumN (fun i => sh t * smp S px py (row (120 * t + i)) (row (120 * t + i + 1)) k) n
def dk (S : Int) (px py cnt row sh : Int → Int) (k : Int) : Int := sumN (fun t => dkT S px py cnt row sh t k (cnt t - 1).toNat) 3
/-- FAR over all 64 squares -/
def farS (w want dark : Int → Int) (p : Int) : Int := sumN (fun k => w k * ((want (64 * p + k) - dark k).natAbs : Int)) 64
/-- pins that are good: a board, points of its own -/
def gPin (S n : Int) (px py : Int → Int) : Prop := (2 ≤ S ∧ S ≤ 8) ∧ (0 ≤ n ∧ n ≤ 24) ∧ (∀ i, 0 ≤ i → i < n → (0 ≤ px i ∧ px i ≤ S) ∧ (0 ≤ py i ∧ py i ≤ S)) ∧ ∀ i j, 0 ≤ i → i < n → 0 ≤ j → j < n → px i = px j → py i = py j → i = j
theorem gPin_at {S n : Int} {px py : Int → Int} (h : gPin S n px py) {a : Int} (h1 : 0 ≤ a) (h2 : a < n) : ((0 ≤ px a ∧ px a ≤ 8) ∧ (0 ≤ py a ∧ py a ≤ 8)) ∧ (0 ≤ px a ∧ px a ≤ S) ∧ (0 ≤ py a ∧ py a ≤ S) := by
  have := h.2.2.1 a h1 h2
  have := h.1
  omega
theorem lenP_pos {S n : Int} {px py : Int → Int} (h : gPin S n px py) {a b : Int} (h1 : 0 ≤ a) (h2 : a < n) (h3 : 0 ≤ b) (h4 : b < n) (hne : a ≠ b) : 1 ≤ lenP (px a) (py a) (px b) (py b) ∧ lenP (px a) (py a) (px b) (py b) ≤ 8 := by
  have ha := gPin_at h h1 h2
  have hb := gPin_at h h3 h4
  have hd : ¬ (px a = px b ∧ py a = py b) := fun q => hne (h.2.2.2 a b h1 h2 h3 h4 q.1 q.2)
  unfold lenP
  omega
/-- windings that are good -/
def gWnd (n : Int) (cnt row : Int → Int) : Prop := ∀ t, 0 ≤ t → t < 3 → (0 ≤ cnt t ∧ cnt t ≤ 120) ∧ (∀ i, 0 ≤ i → i < cnt t → 0 ≤ row (120 * t + i) ∧ row (120 * t + i) < n) ∧ ∀ i, 0 ≤ i → i + 1 < cnt t → row (120 * t + i) ≠ row (120 * t + i + 1)
theorem sqm_in {S xa ya xb yb i : Int} (hS : 1 ≤ S) (h1 : 0 ≤ xa ∧ xa ≤ S) (h2 : 0 ≤ ya ∧ ya ≤ S) (h3 : 0 ≤ xb ∧ xb ≤ S) (h4 : 0 ≤ yb ∧ yb ≤ S) (hi : 0 ≤ i ∧ i < 8 * lenP xa ya xb yb) : (0 ≤ mdl S xa xb (8 * lenP xa ya xb yb) i ∧ mdl S xa xb (8 * lenP xa ya xb yb) i ≤ S - 1) ∧ (0 ≤ mdl S ya yb (8 * lenP xa ya xb yb) i ∧ mdl S ya yb (8 * lenP xa ya xb yb) i ≤ S - 1) :=
  ⟨mdl_in hS h1 h3 hi, mdl_in hS h2 h4 hi⟩

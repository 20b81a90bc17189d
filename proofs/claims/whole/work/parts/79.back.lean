/-! lines told back from shades -/
def dkL (S : Int) (px py la lb : Int → Int) (L : Nat) (x k : Int) : Int := sumN (fun l => if bt x l then smp S px py (la l) (lb l) k else 0) L
def cntN (f : Int → Int) : Int := sumN (fun k => if f k ≠ 0 then 1 else 0) 64
def cntO (f : Int → Int) : Int := sumN (fun k => if f k < 0 then 1 else 0) 64
/-- what the squares lack when the lines of x are there -/
def lkS (tl : Int → Int) (dl : Int → Int → Int) (x k : Int) : Int := if tl k = -1 then 0 else tl k - dl x k
def vlS (tl : Int → Int) (dl : Int → Int → Int) (x : Int) : Bool := decide (cntN (lkS tl dl x) = 0)
def noteS (s : Int × Int × Int) (x : Int) : Int × Int × Int := if s.1 = 0 then (1, x, x) else (s.1 + 1, s.2.1, ot_and s.2.2 x)
def bkS (vl : Int → Bool) : Nat → Int → Int × Int × Int → Int × Int × Int
  | 0, c, s => if vl c then noteS s c else s
  | j + 1, c, s => bkS vl j (ot_or c (ot_shl 1 j)) (bkS vl j c s)
def bkF (vl : Int → Bool) (c : Int) : Nat → Int × Int × Int → Int × Int × Int
  | 0, s => s
  | n + 1, s => if vl (c + n) then noteS (bkF vl c n s) (c + n) else bkF vl c n s
theorem bkF_add (vl : Int → Bool) (c : Int) (m : Nat) (s : Int × Int × Int) : ∀ n : Nat, bkF vl c (m + n) s = bkF vl (c + m) n (bkF vl c m s)
  | 0 => rfl
  | n + 1 => by
    show (if vl (c + ((m + n : Nat) : Int)) then noteS (bkF vl c (m + n) s) (c + ((m + n : Nat) : Int)) else bkF vl c (m + n) s) = (if vl (c + (m : Int) + (n : Int)) then noteS (bkF vl (c + m) n (bkF vl c m s)) (c + (m : Int) + (n : Int)) else bkF vl (c + m) n (bkF vl c m s))
    rw [bkF_add vl c m s n, show c + ((m + n : Nat) : Int) = c + (m : Int) + (n : Int) by omega]
theorem or_add {m j : Nat} (hj : j < 12) (hm : 2 ^ (j + 1) * m + 2 ^ j < 2147483648) : ot_or ((2 ^ (j + 1) * m : Nat) : Int) (ot_shl 1 j) = ((2 ^ (j + 1) * m + 2 ^ j : Nat) : Int) := by
  have h1 : 2 ^ (j + 1) * m < 2147483648 := Nat.lt_of_le_of_lt (Nat.le_add_right _ _) hm
  rw [bt_or_eq ⟨Int.natCast_nonneg _, Int.ofNat_lt.mpr h1⟩ (by omega)]
  show (((2 ^ (j + 1) * m : Nat) ||| 2 ^ j : Nat) : Int) = _
  rw [← Nat.two_pow_add_eq_or_of_lt (Nat.pow_lt_pow_right (by decide) (Nat.lt_succ_self j))]
theorem bkS_F (vl : Int → Bool) : ∀ (j : Nat) (m : Nat) (s : Int × Int × Int), j ≤ 12 → 2 ^ j * m + 2 ^ j ≤ 4096 → bkS vl j ((2 ^ j * m : Nat) : Int) s = bkF vl ((2 ^ j * m : Nat) : Int) (2 ^ j) s
  | 0, m, s, _, _ => by
    show (if vl _ then noteS s _ else s) = (if vl (_ + ((0 : Nat) : Int)) then noteS s (_ + ((0 : Nat) : Int)) else s)
    rw [show (((2 ^ 0 * m : Nat) : Int) + ((0 : Nat) : Int)) = ((2 ^ 0 * m : Nat) : Int) by omega]
  | j + 1, m, s, hj, hm => by
    have e2 : 2 ^ (j + 1) = 2 ^ j + 2 ^ j := by rw [Nat.pow_succ]; omega
    have e3 : 2 ^ (j + 1) * m = 2 ^ j * (2 * m) := by rw [Nat.pow_succ, Nat.mul_assoc]
    have e4 : 2 ^ (j + 1) * m + 2 ^ j = 2 ^ j * (2 * m + 1) := by rw [e3, Nat.mul_succ]
    have h5 : 2 ^ j * (2 * m) + (2 ^ j + 2 ^ j) ≤ 4096 := by rw [← e3, ← e2]; exact hm
    have h6 : 2 ^ j * (2 * m + 1) + 2 ^ j ≤ 4096 := by rw [Nat.mul_succ]; omega
    have h7 : 2 ^ (j + 1) * m + 2 ^ j < 2147483648 := by rw [e4]; exact Nat.lt_of_le_of_lt (Nat.le_trans (Nat.le_add_right _ _) h6) (by decide)
    have h8 : 2 ^ j * (2 * m) + 2 ^ j ≤ 4096 := Nat.le_trans (Nat.add_le_add_left (Nat.le_add_right _ _) _) h5
    show bkS vl j (ot_or ((2 ^ (j + 1) * m : Nat) : Int) (ot_shl 1 j)) (bkS vl j ((2 ^ (j + 1) * m : Nat) : Int) s) = _
    rw [or_add (by omega) h7, e4, e3, bkS_F vl j (2 * m) s (by omega) h8, bkS_F vl j (2 * m + 1) _ (by omega) h6, e2, bkF_add]
    rw [show ((2 ^ j * (2 * m) : Nat) : Int) + ((2 ^ j : Nat) : Int) = ((2 ^ j * (2 * m + 1) : Nat) : Int) by rw [Nat.mul_succ]; omega]
theorem dkL_or {S : Int} {px py la lb : Int → Int} {L j : Nat} {c k : Int} (hc : 0 ≤ c ∧ c < 2147483648) (hj : j < 31) (hn : bt c j = false) (hL : j < L) : dkL S px py la lb L (ot_or c (ot_shl 1 j)) k = dkL S px py la lb L c k + smp S px py (la j) (lb j) k := by
  unfold dkL
  have e : ∀ l : Int, 0 ≤ l → l < L → (if bt (ot_or c (ot_shl 1 j)) l then smp S px py (la l) (lb l) k else 0) = (if l = (j : Int) then smp S px py (la j) (lb j) k else (if bt c l then smp S px py (la l) (lb l) k else 0)) := by
    intro l l1 l2
    rw [bt_or hc (by omega) l1]
    by_cases w : l = (j : Int)
    · subst w; simp
    · simp [w]
  rw [sumN_congr e, sumN_upd (f := fun l => if bt c l then smp S px py (la l) (lb l) k else 0) (by omega) (by omega)]
  rw [hn]; simp
theorem cnt_upd {f : Int → Int} {P : Int → Bool} {q v : Int} (hq : 0 ≤ q ∧ q < 64) : sumN (fun k => if P (up1 f q v k) then 1 else 0) 64 = sumN (fun k => if P (f k) then 1 else 0) 64 + ((if P v then 1 else 0) - (if P (f q) then 1 else 0)) := by
  have e : ∀ k : Int, 0 ≤ k → k < (64 : Nat) → (if P (up1 f q v k) then (1 : Int) else 0) = (if k = q then (if P v then 1 else 0) else (if P (f k) then 1 else 0)) := by
    intro k _ _
    by_cases w : k = q
    · subst w; rw [up1_s, if_pos rfl]
    · rw [up1_n w, if_neg w]
  rw [sumN_congr e, sumN_upd (f := fun k => if P (f k) then 1 else 0) hq.1 (by omega)]
  omega
theorem cntN_upd {f : Int → Int} {q v : Int} (hq : 0 ≤ q ∧ q < 64) : cntN (up1 f q v) = cntN f + ((if v ≠ 0 then 1 else 0) - (if f q ≠ 0 then 1 else 0)) := by
  have := cnt_upd (f := f) (P := fun z => decide (z ≠ 0)) (v := v) hq
  simpa [cntN] using this
theorem cntO_upd {f : Int → Int} {q v : Int} (hq : 0 ≤ q ∧ q < 64) : cntO (up1 f q v) = cntO f + ((if v < 0 then 1 else 0) - (if f q < 0 then 1 else 0)) := by
  have := cnt_upd (f := f) (P := fun z => decide (z < 0)) (v := v) hq
  simpa [cntO] using this
theorem cnt_congr {f g : Int → Int} (h : ∀ k, 0 ≤ k → k < 64 → f k = g k) : cntN f = cntN g ∧ cntO f = cntO g :=
  ⟨sumN_congr (fun k k1 k2 => by rw [h k k1 (by omega)]), sumN_congr (fun k k1 k2 => by rw [h k k1 (by omega)])⟩
theorem cnt_bd (f : Int → Int) : (0 ≤ cntN f ∧ cntN f ≤ 64) ∧ (0 ≤ cntO f ∧ cntO f ≤ 64) := by
  have h1 := sumN_bound (f := fun k => if f k ≠ 0 then 1 else 0) (c := 1) (by omega) (n := 64) (fun k _ _ => by split <;> omega)
  have h2 := sumN_bound (f := fun k => if f k < 0 then 1 else 0) (c := 1) (by omega) (n := 64) (fun k _ _ => by split <;> omega)
  exact ⟨by unfold cntN; omega, by unfold cntO; omega⟩
/-- once a square is too dark it stays so -/
theorem sumN_one {f : Int → Int} : ∀ {n : Nat}, (∀ i : Int, 0 ≤ i → i < n → 0 ≤ f i) → sumN f n ≠ 0 → ∃ i : Int, 0 ≤ i ∧ i < n ∧ 0 < f i
  | 0, _, h => absurd rfl h
  | n + 1, hf, h => by
    by_cases w : 0 < f (n : Int)
    · exact ⟨n, by omega, by omega, w⟩
    · have h0 := hf (n : Int) (by omega) (by omega)
      have h2 : sumN f n ≠ 0 := by
        intro q
        apply h
        rw [sumN_succ, q]; omega
      obtain ⟨i, i1, i2, i3⟩ := sumN_one (fun i i1 i2 => hf i i1 (by omega)) h2
      exact ⟨i, i1, by omega, i3⟩
theorem sumN_nn {f : Int → Int} : ∀ {n : Nat}, (∀ i : Int, 0 ≤ i → i < n → 0 ≤ f i) → 0 ≤ sumN f n
  | 0, _ => Int.le_refl _
  | n + 1, hf => by
    rw [sumN_succ]
    have := hf n (by omega) (by omega)
    have := sumN_nn (n := n) (fun i i1 i2 => hf i i1 (by omega))
    omega
theorem sumN_pos {f : Int → Int} : ∀ {n : Nat} {i : Int}, (∀ i : Int, 0 ≤ i → i < n → 0 ≤ f i) → 0 ≤ i → i < n → 0 < f i → 0 < sumN f n
  | 0, i, _, h1, h2, _ => by omega
  | n + 1, i, hf, h1, h2, h3 => by
    rw [sumN_succ]
    have hb : 0 ≤ sumN f n := sumN_nn (fun i i1 i2 => hf i i1 (by omega))
    by_cases w : i = (n : Int)
    · rw [w] at h3; omega
    · have := sumN_pos (fun i i1 i2 => hf i i1 (by omega)) h1 (show i < (n : Int) by omega) h3
      have := hf n (by omega) (by omega)
      omega
theorem cntO_stay {tl : Int → Int} {dl : Int → Int → Int} {c d : Int} (h : cntO (lkS tl dl c) ≠ 0) (hd : ∀ k, 0 ≤ k → k < 64 → dl c k ≤ dl d k) : cntO (lkS tl dl d) ≠ 0 ∧ vlS tl dl d = false := by
  obtain ⟨k, k1, k2, k3⟩ := sumN_one (fun i _ _ => by show (0 : Int) ≤ if _ then 1 else 0; split <;> omega) h
  have k4 : lkS tl dl c k < 0 := by
    revert k3
    show (0 : Int) < (if _ then 1 else 0) → _
    split
    · intro _; assumption
    · intro q; omega
  have k5 : lkS tl dl d k < 0 := by
    unfold lkS at k4 ⊢
    have := hd k k1 (by omega)
    split at k4
    · omega
    · rename_i w; rw [if_neg w]; omega
  refine ⟨fun q => ?_, ?_⟩
  · have := sumN_pos (f := fun k => if lkS tl dl d k < 0 then 1 else 0) (n := 64) (i := k) (fun i _ _ => by show (0 : Int) ≤ if _ then 1 else 0; split <;> omega) k1 k2 (by show (0 : Int) < if _ then 1 else 0; rw [if_pos k5]; omega)
    unfold cntO at q
    omega
  · unfold vlS
    have := sumN_pos (f := fun k => if lkS tl dl d k ≠ 0 then 1 else 0) (n := 64) (i := k) (fun i _ _ => by show (0 : Int) ≤ if _ then 1 else 0; split <;> omega) k1 k2 (by show (0 : Int) < if _ then 1 else 0; rw [if_pos (by omega)]; omega)
    unfold cntN
    exact decide_eq_false (by omega)
theorem bkS_over {tl : Int → Int} {dl : Int → Int → Int} (hdl : ∀ (c : Int) (j : Nat), 0 ≤ c → c < 4096 → j < 12 → bt c j = false → ∀ k, 0 ≤ k → k < 64 → dl c k ≤ dl (ot_or c (ot_shl 1 j)) k) : ∀ (j : Nat) (c : Int) (s : Int × Int × Int), j ≤ 12 → (0 ≤ c ∧ c < 4096) → (∀ i : Nat, i < j → bt c i = false) → cntO (lkS tl dl c) ≠ 0 → bkS (vlS tl dl) j c s = s
  | 0, c, s, _, _, _, h => by
    show (if vlS tl dl c then noteS s c else s) = s
    rw [(cntO_stay h (fun _ _ _ => Int.le_refl _)).2]; rfl
  | j + 1, c, s, hj, hc, hb, h => by
    have h1 := hdl c j hc.1 hc.2 (by omega) (hb j (by omega))
    have hr := bt_or_rng (x := c) (j := (j : Int)) (n := 12) (by decide) (by omega) (by omega)
    show bkS (vlS tl dl) j (ot_or c (ot_shl 1 j)) (bkS (vlS tl dl) j c s) = s
    rw [bkS_over hdl j c s (by omega) hc (fun i hi => hb i (by omega)) h]
    refine bkS_over hdl j _ s (by omega) (by omega) (fun i hi => ?_) (cntO_stay h h1).1
    rw [bt_or (by omega) (by omega) (by omega), hb i (by omega)]
    simp; omega

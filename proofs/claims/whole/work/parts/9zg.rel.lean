/-! class and reference side by side -/
def okS (S n m : Int) (px py wt we sh rw ct sA sB tl : Int → Int) : Prop := gPin S n px py ∧ gWnd n ct rw ∧ gShd sh ∧ (∀ k, 0 ≤ k → k < 64 → 0 ≤ we k ∧ we k ≤ 9) ∧ gWnt S wt ∧ gNet m sA sB ∧ (∀ l : Nat, (l : Int) < m → sA (l : Int) < n ∧ sB (l : Int) < n) ∧ ∀ k, 0 ≤ k → k < 64 → -1 ≤ tl k ∧ tl k ≤ 9999
def unC (f : Int → Int) (u t : Int) : Int := sumN (fun i => if f i = t then 1 else 0) u.toNat
def rOk (μ : ot_M) : Prop := okS (μ 1 11) (μ 1 12) (μ 1 13) (μ 2) (μ 3) (μ 4) (μ 5) (μ 6) (μ 7) (μ 8) (μ 9) (μ 10) (μ 11)
def rCh (μ : ot_M) : Prop := gChd (μ 1 11) (μ 1 12) (μ 2) (μ 3) (μ 38) (μ 39)
def rCl (μ : ot_M) : Prop := gClo (μ 1 11) (μ 2) (μ 3) (μ 8) (μ 7) (μ 6) (μ 34) (μ 35)
def rUn (μ : ot_M) : Prop := (0 ≤ μ 0 14 ∧ μ 0 14 ≤ 40) ∧ (∀ i, 0 ≤ i → i < μ 0 14 → 0 ≤ μ 59 i ∧ μ 59 i < 3) ∧ ∀ t, 0 ≤ t → t < 3 → unC (μ 59) (μ 0 14) t ≤ μ 8 t
def rTp (μ : ot_M) : Prop := (0 ≤ μ 0 10 ∧ μ 0 10 ≤ 400) ∧ ∀ k, 0 ≤ μ 58 k ∧ μ 58 k ≤ 255
def rLw (μ : ot_M) : Prop := gLaw (μ 13) (μ 14) (μ 15) (μ 12 4) (μ 77) (μ 78) (μ 74) (μ 75) (μ 76) ∧ (∀ j, 0 ≤ j → j < 16 → μ 15 j = 0 ∨ μ 15 j = 1) ∧ b53 μ ∧ (-1 ≤ μ 60 21 ∧ μ 60 21 ≤ 99999) ∧ gWd (μ 73)
def rSc (μ : ot_M) : Prop := μ 60 0 = 0 ∧ μ 60 1 = μ 1 11 ∧ μ 60 2 = μ 1 12 ∧ μ 60 11 = μ 1 13 ∧ μ 60 23 = μ 12 4 ∧ μ 60 14 = μ 0 14 ∧ μ 60 17 = μ 0 10 ∧ μ 60 35 = μ 0 11 ∧ μ 60 36 = μ 0 12 ∧ μ 60 46 = μ 0 2
def rAr (μ : ot_M) : Prop := μ 61 = μ 2 ∧ μ 62 = μ 3 ∧ μ 66 = μ 4 ∧ (fun k => μ 67 k + 1) = μ 5 ∧ μ 63 = μ 6 ∧ μ 65 = μ 7 ∧ μ 64 = μ 8 ∧ μ 69 = μ 9 ∧ μ 70 = μ 10 ∧ (fun k => μ 68 k - 1) = μ 11 ∧ μ 72 = μ 58 ∧ μ 71 = μ 59
def imE (μ : ot_M) : Prop := (μ 87 0 = μ 17 11 ∧ μ 87 1 = μ 17 12 ∧ μ 87 800 = μ 17 13 ∧ μ 87 841 = μ 28 4) ∧ (∀ i, 0 ≤ i → i < 24 → μ 87 (2 + 2 * i) = μ 18 i ∧ μ 87 (2 + 2 * i + 1) = μ 19 i) ∧ (∀ i, 0 ≤ i → i < 3 → μ 87 (50 + 2 * i) = μ 22 i ∧ μ 87 (50 + 2 * i + 1) = μ 24 i) ∧ (∀ i, 0 ≤ i → i < 360 → μ 87 (56 + i) = μ 23 i) ∧ (∀ i, 0 ≤ i → i < 256 → μ 87 (416 + i) = μ 20 i) ∧ (∀ i, 0 ≤ i → i < 64 → μ 87 (672 + 2 * i) + 1 = μ 21 i ∧ μ 87 (672 + 2 * i + 1) - 1 = μ 27 i) ∧ ∀ i, 0 ≤ i → i < 20 → μ 87 (801 + 2 * i) = μ 25 i ∧ μ 87 (801 + 2 * i + 1) = μ 26 i
def imR (μ : ot_M) : Prop := okS (μ 17 11) (μ 17 12) (μ 17 13) (μ 18) (μ 19) (μ 20) (μ 21) (μ 22) (μ 23) (μ 24) (μ 25) (μ 26) (μ 27) ∧ (∀ j, 0 ≤ j → j < 16 → μ 31 j = 0 ∨ μ 31 j = 1) ∧ gLaw (μ 29) (μ 30) (μ 31) (μ 28 4) (fun i => μ 87 (890 + 2 * i)) (fun i => μ 87 (890 + 2 * i + 1)) (fun l => μ 87 (842 + 3 * l)) (fun l => μ 87 (842 + 3 * l + 1)) (fun l => μ 87 (842 + 3 * l + 2)) ∧ imE μ
def rIm (μ : ot_M) : Prop := (μ 0 2 = 0 ∨ μ 0 2 = 1) ∧ (μ 0 2 = 1 → imR μ)
def rel (μ : ot_M) : Prop := rOk μ ∧ rCh μ ∧ rCl μ ∧ rUn μ ∧ rTp μ ∧ rLw μ ∧ rSc μ ∧ rAr μ ∧ rIm μ
def frQ (μ μ1 : ot_M) : Prop := ∀ k, 60 ≤ k → k < 88 → μ1 k = μ k
def frC (μ μ1 : ot_M) : Prop := ∀ k, k < 60 → μ1 k = μ k
/-- what the reference alone needs -/
def relQ (μ : ot_M) : Prop := μ 60 0 = 0 ∧ okS (μ 60 1) (μ 60 2) (μ 60 11) (μ 61) (μ 62) (μ 66) (fun k => μ 67 k + 1) (μ 63) (μ 65) (μ 64) (μ 69) (μ 70) (fun k => μ 68 k - 1) ∧ gLawQ (μ 60 23) (μ 77) (μ 78) (μ 74) (μ 75) (μ 76) ∧ ((0 ≤ μ 60 14 ∧ μ 60 14 ≤ 40) ∧ ∀ i, 0 ≤ i → i < μ 60 14 → 0 ≤ μ 71 i ∧ μ 71 i < 3) ∧ ((0 ≤ μ 60 17 ∧ μ 60 17 ≤ 400) ∧ ∀ k, 0 ≤ μ 72 k ∧ μ 72 k ≤ 255) ∧ gWd (μ 73) ∧ (-1 ≤ μ 60 21 ∧ μ 60 21 ≤ 99999) ∧ (μ 60 46 = 0 ∨ μ 60 46 = 1)
section REL
variable {μ μ1 μ2 : ot_M}
theorem relQ_of (h : rel μ) : relQ μ := by
  obtain ⟨h1, h2, h3, h4, h5, h6, h7, h8, h9⟩ := h
  obtain ⟨s0, s1, s2, s3, s4, s5, s6, s7, s8, s9⟩ := h7
  obtain ⟨a1, a2, a3, a4, a5, a6, a7, a8, a9, a10, a11, a12⟩ := h8
  refine ⟨s0, ?_, ?_, ?_, ?_, h6.2.2.2.2, h6.2.2.2.1, ?_⟩
  · rw [s1, s2, s3, a1, a2, a3, a4, a5, a6, a7, a8, a9, a10]; exact h1
  · rw [s4]; exact gLaw_Q h6.1
  · rw [s5, a12]; exact ⟨h4.1, h4.2.1⟩
  · rw [s6, a11]; exact h5
  · rw [s9]; exact h9.1
theorem relQ_fr (h : relQ μ) (hf : frQ μ μ1) : relQ μ1 := by
  unfold relQ
  rw [hf 60 (by decide) (by decide), hf 61 (by decide) (by decide), hf 62 (by decide) (by decide), hf 63 (by decide) (by decide), hf 64 (by decide) (by decide), hf 65 (by decide) (by decide), hf 66 (by decide) (by decide), hf 67 (by decide) (by decide), hf 68 (by decide) (by decide), hf 69 (by decide) (by decide), hf 70 (by decide) (by decide), hf 71 (by decide) (by decide), hf 72 (by decide) (by decide), hf 73 (by decide) (by decide), hf 74 (by decide) (by decide), hf 75 (by decide) (by decide), hf 76 (by decide) (by decide), hf 77 (by decide) (by decide), hf 78 (by decide) (by decide)]
  exact h
/-- nothing that counts has changed -/
def relK (k : Nat) : Prop := k < 16 ∨ (17 ≤ k ∧ k ≤ 35) ∨ k = 58 ∨ k = 59 ∨ (61 ≤ k ∧ k ≤ 78) ∨ k = 87
def relI (i : Int) : Prop := i = 0 ∨ i = 1 ∨ i = 2 ∨ i = 11 ∨ i = 23 ∨ i = 14 ∨ i = 17 ∨ i = 35 ∨ i = 36 ∨ i = 46
theorem rel_same (h : rel μ) (e : ∀ k, relK k → μ2 k = μ k) (e60 : ∀ i, relI i → μ2 60 i = μ 60 i) (h21 : -1 ≤ μ2 60 21 ∧ μ2 60 21 ≤ 99999) (hCh : gChd (μ 1 11) (μ 1 12) (μ 2) (μ 3) (μ2 38) (μ2 39)) (h53 : b53 μ2) : rel μ2 := by
  obtain ⟨h1, h2, h3, h4, h5, h6, h7, h8, h9⟩ := h
  have e' : ∀ k, (decide (k < 16) || (decide (17 ≤ k) && decide (k ≤ 35)) || decide (k = 58) || decide (k = 59) || (decide (61 ≤ k) && decide (k ≤ 78)) || decide (k = 87)) = true → μ2 k = μ k := fun k hk => e k (by
    unfold relK
    simp only [Bool.or_eq_true, Bool.and_eq_true, decide_eq_true_eq] at hk
    omega)
  refine ⟨?_, ?_, ?_, ?_, ?_, ?_, ?_, ?_, ?_⟩
  · unfold rOk
    rw [e' 1 rfl, e' 2 rfl, e' 3 rfl, e' 4 rfl, e' 5 rfl, e' 6 rfl, e' 7 rfl, e' 8 rfl, e' 9 rfl, e' 10 rfl, e' 11 rfl]; exact h1
  · unfold rCh
    rw [e' 1 rfl, e' 2 rfl, e' 3 rfl]; exact hCh
  · unfold rCl
    rw [e' 1 rfl, e' 2 rfl, e' 3 rfl, e' 6 rfl, e' 7 rfl, e' 8 rfl, e' 34 rfl, e' 35 rfl]; exact h3
  · unfold rUn
    rw [e' 0 rfl, e' 59 rfl, e' 8 rfl]; exact h4
  · unfold rTp
    rw [e' 0 rfl, e' 58 rfl]; exact h5
  · obtain ⟨b1, b2, b3, b4, b5⟩ := h6
    refine ⟨?_, ?_, h53, h21, ?_⟩
    · rw [e' 13 rfl, e' 14 rfl, e' 15 rfl, e' 12 rfl, e' 77 rfl, e' 78 rfl, e' 74 rfl, e' 75 rfl, e' 76 rfl]; exact b1
    · rw [e' 15 rfl]; exact b2
    · rw [e' 73 rfl]; exact b5
  · unfold rSc
    rw [e60 0 (by unfold relI; omega), e60 1 (by unfold relI; omega), e60 2 (by unfold relI; omega), e60 11 (by unfold relI; omega), e60 23 (by unfold relI; omega), e60 14 (by unfold relI; omega), e60 17 (by unfold relI; omega), e60 35 (by unfold relI; omega), e60 36 (by unfold relI; omega), e60 46 (by unfold relI; omega), e' 0 rfl, e' 1 rfl, e' 12 rfl]
    exact h7
  · unfold rAr
    rw [e' 61 rfl, e' 62 rfl, e' 63 rfl, e' 64 rfl, e' 65 rfl, e' 66 rfl, e' 67 rfl, e' 68 rfl, e' 69 rfl, e' 70 rfl, e' 71 rfl, e' 72 rfl, e' 2 rfl, e' 3 rfl, e' 4 rfl, e' 5 rfl, e' 6 rfl, e' 7 rfl, e' 8 rfl, e' 9 rfl, e' 10 rfl, e' 11 rfl, e' 58 rfl, e' 59 rfl]
    exact h8
  · unfold rIm
    rw [e' 0 rfl]
    refine ⟨h9.1, fun w => ?_⟩
    have h := h9.2 w
    unfold imR imE at h ⊢
    rw [e' 17 rfl, e' 18 rfl, e' 19 rfl, e' 20 rfl, e' 21 rfl, e' 22 rfl, e' 23 rfl, e' 24 rfl, e' 25 rfl, e' 26 rfl, e' 27 rfl, e' 28 rfl, e' 29 rfl, e' 30 rfl, e' 31 rfl, e' 87 rfl]
    exact h
end REL
-- the pieces that contracts ask for
section PRE
variable {S n m : Int} {px py wt we sh rw ct sA sB tl : Int → Int}
theorem ok_pt (h : okS S n m px py wt we sh rw ct sA sB tl) : ∀ i, 0 ≤ i → i < n → (0 ≤ px i ∧ px i ≤ 8) ∧ (0 ≤ py i ∧ py i ≤ 8) := fun i i1 i2 => (gPin_at h.1 i1 i2).1
theorem ok_ct (h : okS S n m px py wt we sh rw ct sA sB tl) : ∀ t, 0 ≤ t → t < 3 → 0 ≤ ct t ∧ ct t ≤ 120 := fun t t1 t2 => (h.2.1 t t1 t2).1
theorem ok_ln (h : okS S n m px py wt we sh rw ct sA sB tl) : ∀ i, 0 ≤ i → i < m → (0 ≤ sA i ∧ sA i < n) ∧ (0 ≤ sB i ∧ sB i < n) ∧ sA i ≠ sB i := fun i i1 i2 => by
  have hn := h.2.2.2.2.2.1
  have hl := h.2.2.2.2.2.2.1 i.toNat (by omega)
  have h2 := hn.2.1 i.toNat (by omega)
  have h3 := nA_eq hn (l := i.toNat) (by omega)
  rw [show ((i.toNat : Nat) : Int) = i by omega] at hl h2 h3
  omega
theorem ok_l24 (h : okS S n m px py wt we sh rw ct sA sB tl) : ∀ i, 0 ≤ i → i < m → (0 ≤ sA i ∧ sA i < 24) ∧ (0 ≤ sB i ∧ sB i < 24) := fun i i1 i2 => by
  have h1 := ok_ln h i i1 i2
  have h2 := h.1.2.1
  omega
theorem ok_dk (h : okS S n m px py wt we sh rw ct sA sB tl) : ∀ k, 0 ≤ dk S px py ct rw sh k ∧ dk S px py ct rw sh k ≤ 25704 := fun k => dk_bd h.1 h.2.1 h.2.2.1 k
theorem ok_far (h : okS S n m px py wt we sh rw ct sA sB tl) {d : Int → Int} (hd : ∀ k, 0 ≤ k → k < 64 → d k = dk S px py ct rw sh k) : ∀ q, 0 ≤ q → q < 4 → gFar wt d q := fun q q1 q2 => gFar_of h.2.2.2.2.1 ⟨q1, q2⟩ (fun k k1 k2 => by rw [hd k k1 k2]; have := ok_dk h k; omega)
theorem ok_fS (h : okS S n m px py wt we sh rw ct sA sB tl) {d : Int → Int} (hd : ∀ k, 0 ≤ k → k < 64 → d k = dk S px py ct rw sh k) : ∀ q, 0 ≤ q → q < 4 → 0 ≤ farS we wt d q ∧ farS we wt d q ≤ 2000000000 := fun q q1 q2 => by
  have := farS_bd (p := q) (w := we) (want := wt) (d := d) h.2.2.2.1 (fun k k1 k2 => (h.2.2.2.2.1 q k q1 q2 k1 k2).1) (fun k k1 k2 => by rw [hd k k1 k2]; have := ok_dk h k; omega)
  omega
theorem ok_fM (h : okS S n m px py wt we sh rw ct sA sB tl) {w0 : Int → Int} (hw : (fun k => w0 k + 1) = we) : ∀ q, 0 ≤ q → q < 4 → farM S w0 wt (dk S px py ct rw sh) q = farS we wt (dk S px py ct rw sh) q := fun q q1 q2 => by
  rw [farM_S (fun k k1 k2 hk => ⟨(h.2.2.2.2.1 q k q1 q2 k1 k2).2 hk, dk_out h.1 h.2.1 hk⟩), hw]
end PRE

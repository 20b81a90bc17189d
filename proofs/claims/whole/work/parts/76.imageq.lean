/-- which place of the memory the image's places are -/
def cellOf (j : Int) : Nat × Int := if j = 0 then (60, 1) else if j = 1 then (60, 2) else if j < 50 then (if j % 2 = 0 then (61, (j - 2) / 2) else (62, (j - 3) / 2)) else if j < 56 then (if j % 2 = 0 then (63, (j - 50) / 2) else (64, (j - 51) / 2)) else if j < 416 then (65, j - 56) else if j < 672 then (66, j - 416) else if j < 800 then (if j % 2 = 0 then (67, (j - 672) / 2) else (68, (j - 673) / 2)) else if j = 800 then (60, 11) else if j < 841 then (if j % 2 = 1 then (69, (j - 801) / 2) else (70, (j - 802) / 2)) else if j = 841 then (60, 23) else if j < 890 then (if (j - 842) % 3 = 0 then (74, (j - 842) / 3) else if (j - 842) % 3 = 1 then (75, (j - 843) / 3) else (76, (j - 844) / 3)) else if j % 2 = 0 then (77, (j - 890) / 2) else (78, (j - 891) / 2)
def imgP (A : Nat) (x : Int) : Int := if A = 60 then (if x = 1 then 0 else if x = 2 then 1 else if x = 11 then 800 else if x = 23 then 841 else -1) else if A = 61 then (if 0 ≤ x ∧ x < 24 then 2 + 2 * x else -1) else if A = 62 then (if 0 ≤ x ∧ x < 24 then 2 + 2 * x + 1 else -1) else if A = 63 then (if 0 ≤ x ∧ x < 3 then 50 + 2 * x else -1) else if A = 64 then (if 0 ≤ x ∧ x < 3 then 50 + 2 * x + 1 else -1) else if A = 65 then (if 0 ≤ x ∧ x < 360 then 56 + x else -1) else if A = 66 then (if 0 ≤ x ∧ x < 256 then 416 + x else -1) else if A = 67 then (if 0 ≤ x ∧ x < 64 then 672 + 2 * x else -1) else if A = 68 then (if 0 ≤ x ∧ x < 64 then 672 + 2 * x + 1 else -1) else if A = 69 then (if 0 ≤ x ∧ x < 20 then 801 + 2 * x else -1) else if A = 70 then (if 0 ≤ x ∧ x < 20 then 801 + 2 * x + 1 else -1) else if A = 74 then (if 0 ≤ x ∧ x < 16 then 842 + 3 * x else -1) else if A = 75 then (if 0 ≤ x ∧ x < 16 then 842 + 3 * x + 1 else -1) else if A = 76 then (if 0 ≤ x ∧ x < 16 then 842 + 3 * x + 2 else -1) else if A = 77 then (if 0 ≤ x ∧ x < 400 then 890 + 2 * x else -1) else if A = 78 then (if 0 ≤ x ∧ x < 400 then 890 + 2 * x + 1 else -1) else -1
theorem cell_61 {k : Int} (h : 0 ≤ k ∧ k < 24) : cellOf (2 + 2 * k) = (61, k) := by
  unfold cellOf
  rw [if_neg (by omega), if_neg (by omega), if_pos (by omega), if_pos (by omega)]
  congr 1
  omega
theorem imgP_61 {k : Int} (h : 0 ≤ k ∧ k < 24) : imgP 61 k = 2 + 2 * k := by
  unfold imgP
  rw [if_neg (by decide), if_pos rfl, if_pos h]
theorem imgN_61 {k : Int} (h : ¬ (0 ≤ k ∧ k < 24)) : imgP 61 k = -1 := by
  unfold imgP
  rw [if_neg (by decide), if_pos rfl, if_neg h]
theorem cell_62 {k : Int} (h : 0 ≤ k ∧ k < 24) : cellOf (2 + 2 * k + 1) = (62, k) := by
  unfold cellOf
  rw [if_neg (by omega), if_neg (by omega), if_pos (by omega), if_neg (by omega)]
  congr 1
  omega
theorem imgP_62 {k : Int} (h : 0 ≤ k ∧ k < 24) : imgP 62 k = 2 + 2 * k + 1 := by
  unfold imgP
  rw [if_neg (by decide), if_neg (by decide), if_pos rfl, if_pos h]
theorem imgN_62 {k : Int} (h : ¬ (0 ≤ k ∧ k < 24)) : imgP 62 k = -1 := by
  unfold imgP
  rw [if_neg (by decide), if_neg (by decide), if_pos rfl, if_neg h]
theorem cell_63 {k : Int} (h : 0 ≤ k ∧ k < 3) : cellOf (50 + 2 * k) = (63, k) := by
  unfold cellOf
  rw [if_neg (by omega), if_neg (by omega), if_neg (by omega), if_pos (by omega), if_pos (by omega)]
  congr 1
  omega
theorem imgP_63 {k : Int} (h : 0 ≤ k ∧ k < 3) : imgP 63 k = 50 + 2 * k := by
  unfold imgP
  rw [if_neg (by decide), if_neg (by decide), if_neg (by decide), if_pos rfl, if_pos h]
theorem imgN_63 {k : Int} (h : ¬ (0 ≤ k ∧ k < 3)) : imgP 63 k = -1 := by
  unfold imgP
  rw [if_neg (by decide), if_neg (by decide), if_neg (by decide), if_pos rfl, if_neg h]
theorem cell_64 {k : Int} (h : 0 ≤ k ∧ k < 3) : cellOf (50 + 2 * k + 1) = (64, k) := by
  unfold cellOf
  rw [if_neg (by omega), if_neg (by omega), if_neg (by omega), if_pos (by omega), if_neg (by omega)]
  congr 1
  omega
theorem imgP_64 {k : Int} (h : 0 ≤ k ∧ k < 3) : imgP 64 k = 50 + 2 * k + 1 := by
  unfold imgP
  rw [if_neg (by decide), if_neg (by decide), if_neg (by decide), if_neg (by decide), if_pos rfl, if_pos h]
theorem imgN_64 {k : Int} (h : ¬ (0 ≤ k ∧ k < 3)) : imgP 64 k = -1 := by
  unfold imgP
  rw [if_neg (by decide), if_neg (by decide), if_neg (by decide), if_neg (by decide), if_pos rfl, if_neg h]
theorem cell_65 {k : Int} (h : 0 ≤ k ∧ k < 360) : cellOf (56 + k) = (65, k) := by
  unfold cellOf
  rw [if_neg (by omega), if_neg (by omega), if_neg (by omega), if_neg (by omega), if_pos (by omega)]
  congr 1
  omega
theorem imgP_65 {k : Int} (h : 0 ≤ k ∧ k < 360) : imgP 65 k = 56 + k := by
  unfold imgP
  rw [if_neg (by decide), if_neg (by decide), if_neg (by decide), if_neg (by decide), if_neg (by decide), if_pos rfl, if_pos h]
theorem imgN_65 {k : Int} (h : ¬ (0 ≤ k ∧ k < 360)) : imgP 65 k = -1 := by
  unfold imgP
  rw [if_neg (by decide), if_neg (by decide), if_neg (by decide), if_neg (by decide), if_neg (by decide), if_pos rfl, if_neg h]
theorem cell_66 {k : Int} (h : 0 ≤ k ∧ k < 256) : cellOf (416 + k) = (66, k) := by
  unfold cellOf
  rw [if_neg (by omega), if_neg (by omega), if_neg (by omega), if_neg (by omega), if_neg (by omega), if_pos (by omega)]
  congr 1
  omega
theorem imgP_66 {k : Int} (h : 0 ≤ k ∧ k < 256) : imgP 66 k = 416 + k := by
  unfold imgP
  rw [if_neg (by decide), if_neg (by decide), if_neg (by decide), if_neg (by decide), if_neg (by decide), if_neg (by decide), if_pos rfl, if_pos h]
theorem imgN_66 {k : Int} (h : ¬ (0 ≤ k ∧ k < 256)) : imgP 66 k = -1 := by
  unfold imgP
  rw [if_neg (by decide), if_neg (by decide), if_neg (by decide), if_neg (by decide), if_neg (by decide), if_neg (by decide), if_pos rfl, if_neg h]
theorem cell_67 {k : Int} (h : 0 ≤ k ∧ k < 64) : cellOf (672 + 2 * k) = (67, k) := by
  unfold cellOf
  rw [if_neg (by omega), if_neg (by omega), if_neg (by omega), if_neg (by omega), if_neg (by omega), if_neg (by omega), if_pos (by omega), if_pos (by omega)]
  congr 1
  omega
theorem imgP_67 {k : Int} (h : 0 ≤ k ∧ k < 64) : imgP 67 k = 672 + 2 * k := by
  unfold imgP
  rw [if_neg (by decide), if_neg (by decide), if_neg (by decide), if_neg (by decide), if_neg (by decide), if_neg (by decide), if_neg (by decide), if_pos rfl, if_pos h]
theorem imgN_67 {k : Int} (h : ¬ (0 ≤ k ∧ k < 64)) : imgP 67 k = -1 := by
  unfold imgP
  rw [if_neg (by decide), if_neg (by decide), if_neg (by decide), if_neg (by decide), if_neg (by decide), if_neg (by decide), if_neg (by decide), if_pos rfl, if_neg h]
theorem cell_68 {k : Int} (h : 0 ≤ k ∧ k < 64) : cellOf (672 + 2 * k + 1) = (68, k) := by
  unfold cellOf
  rw [if_neg (by omega), if_neg (by omega), if_neg (by omega), if_neg (by omega), if_neg (by omega), if_neg (by omega), if_pos (by omega), if_neg (by omega)]
  congr 1
  omega
theorem imgP_68 {k : Int} (h : 0 ≤ k ∧ k < 64) : imgP 68 k = 672 + 2 * k + 1 := by
  unfold imgP
  rw [if_neg (by decide), if_neg (by decide), if_neg (by decide), if_neg (by decide), if_neg (by decide), if_neg (by decide), if_neg (by decide), if_neg (by decide), if_pos rfl, if_pos h]
theorem imgN_68 {k : Int} (h : ¬ (0 ≤ k ∧ k < 64)) : imgP 68 k = -1 := by
  unfold imgP
  rw [if_neg (by decide), if_neg (by decide), if_neg (by decide), if_neg (by decide), if_neg (by decide), if_neg (by decide), if_neg (by decide), if_neg (by decide), if_pos rfl, if_neg h]
theorem cell_69 {k : Int} (h : 0 ≤ k ∧ k < 20) : cellOf (801 + 2 * k) = (69, k) := by
  unfold cellOf
  rw [if_neg (by omega), if_neg (by omega), if_neg (by omega), if_neg (by omega), if_neg (by omega), if_neg (by omega), if_neg (by omega), if_neg (by omega), if_pos (by omega), if_pos (by omega)]
  congr 1
  omega
theorem imgP_69 {k : Int} (h : 0 ≤ k ∧ k < 20) : imgP 69 k = 801 + 2 * k := by
  unfold imgP
  rw [if_neg (by decide), if_neg (by decide), if_neg (by decide), if_neg (by decide), if_neg (by decide), if_neg (by decide), if_neg (by decide), if_neg (by decide), if_neg (by decide), if_pos rfl, if_pos h]
theorem imgN_69 {k : Int} (h : ¬ (0 ≤ k ∧ k < 20)) : imgP 69 k = -1 := by
  unfold imgP
  rw [if_neg (by decide), if_neg (by decide), if_neg (by decide), if_neg (by decide), if_neg (by decide), if_neg (by decide), if_neg (by decide), if_neg (by decide), if_neg (by decide), if_pos rfl, if_neg h]
theorem cell_70 {k : Int} (h : 0 ≤ k ∧ k < 20) : cellOf (801 + 2 * k + 1) = (70, k) := by
  unfold cellOf
  rw [if_neg (by omega), if_neg (by omega), if_neg (by omega), if_neg (by omega), if_neg (by omega), if_neg (by omega), if_neg (by omega), if_neg (by omega), if_pos (by omega), if_neg (by omega)]
  congr 1
  omega
theorem imgP_70 {k : Int} (h : 0 ≤ k ∧ k < 20) : imgP 70 k = 801 + 2 * k + 1 := by
  unfold imgP
  rw [if_neg (by decide), if_neg (by decide), if_neg (by decide), if_neg (by decide), if_neg (by decide), if_neg (by decide), if_neg (by decide), if_neg (by decide), if_neg (by decide), if_neg (by decide), if_pos rfl, if_pos h]
theorem imgN_70 {k : Int} (h : ¬ (0 ≤ k ∧ k < 20)) : imgP 70 k = -1 := by
  unfold imgP
  rw [if_neg (by decide), if_neg (by decide), if_neg (by decide), if_neg (by decide), if_neg (by decide), if_neg (by decide), if_neg (by decide), if_neg (by decide), if_neg (by decide), if_neg (by decide), if_pos rfl, if_neg h]
theorem cell_74 {k : Int} (h : 0 ≤ k ∧ k < 16) : cellOf (842 + 3 * k) = (74, k) := by
  unfold cellOf
  rw [if_neg (by omega), if_neg (by omega), if_neg (by omega), if_neg (by omega), if_neg (by omega), if_neg (by omega), if_neg (by omega), if_neg (by omega), if_neg (by omega), if_neg (by omega), if_pos (by omega), if_pos (by omega)]
  congr 1
  omega
theorem imgP_74 {k : Int} (h : 0 ≤ k ∧ k < 16) : imgP 74 k = 842 + 3 * k := by
  unfold imgP
  rw [if_neg (by decide), if_neg (by decide), if_neg (by decide), if_neg (by decide), if_neg (by decide), if_neg (by decide), if_neg (by decide), if_neg (by decide), if_neg (by decide), if_neg (by decide), if_neg (by decide), if_pos rfl, if_pos h]
theorem imgN_74 {k : Int} (h : ¬ (0 ≤ k ∧ k < 16)) : imgP 74 k = -1 := by
  unfold imgP
  rw [if_neg (by decide), if_neg (by decide), if_neg (by decide), if_neg (by decide), if_neg (by decide), if_neg (by decide), if_neg (by decide), if_neg (by decide), if_neg (by decide), if_neg (by decide), if_neg (by decide), if_pos rfl, if_neg h]
theorem cell_75 {k : Int} (h : 0 ≤ k ∧ k < 16) : cellOf (842 + 3 * k + 1) = (75, k) := by
  unfold cellOf
  rw [if_neg (by omega), if_neg (by omega), if_neg (by omega), if_neg (by omega), if_neg (by omega), if_neg (by omega), if_neg (by omega), if_neg (by omega), if_neg (by omega), if_neg (by omega), if_pos (by omega), if_neg (by omega), if_pos (by omega)]
  congr 1
  omega
theorem imgP_75 {k : Int} (h : 0 ≤ k ∧ k < 16) : imgP 75 k = 842 + 3 * k + 1 := by
  unfold imgP
  rw [if_neg (by decide), if_neg (by decide), if_neg (by decide), if_neg (by decide), if_neg (by decide), if_neg (by decide), if_neg (by decide), if_neg (by decide), if_neg (by decide), if_neg (by decide), if_neg (by decide), if_neg (by decide), if_pos rfl, if_pos h]
theorem imgN_75 {k : Int} (h : ¬ (0 ≤ k ∧ k < 16)) : imgP 75 k = -1 := by
  unfold imgP
  rw [if_neg (by decide), if_neg (by decide), if_neg (by decide), if_neg (by decide), if_neg (by decide), if_neg (by decide), if_neg (by decide), if_neg (by decide), if_neg (by decide), if_neg (by decide), if_neg (by decide), if_neg (by decide), if_pos rfl, if_neg h]
theorem cell_76 {k : Int} (h : 0 ≤ k ∧ k < 16) : cellOf (842 + 3 * k + 2) = (76, k) := by
  unfold cellOf
  rw [if_neg (by omega), if_neg (by omega), if_neg (by omega), if_neg (by omega), if_neg (by omega), if_neg (by omega), if_neg (by omega), if_neg (by omega), if_neg (by omega), if_neg (by omega), if_pos (by omega), if_neg (by omega), if_neg (by omega)]
  congr 1
  omega
theorem imgP_76 {k : Int} (h : 0 ≤ k ∧ k < 16) : imgP 76 k = 842 + 3 * k + 2 := by
  unfold imgP
  rw [if_neg (by decide), if_neg (by decide), if_neg (by decide), if_neg (by decide), if_neg (by decide), if_neg (by decide), if_neg (by decide), if_neg (by decide), if_neg (by decide), if_neg (by decide), if_neg (by decide), if_neg (by decide), if_neg (by decide), if_pos rfl, if_pos h]
theorem imgN_76 {k : Int} (h : ¬ (0 ≤ k ∧ k < 16)) : imgP 76 k = -1 := by
  unfold imgP
  rw [if_neg (by decide), if_neg (by decide), if_neg (by decide), if_neg (by decide), if_neg (by decide), if_neg (by decide), if_neg (by decide), if_neg (by decide), if_neg (by decide), if_neg (by decide), if_neg (by decide), if_neg (by decide), if_neg (by decide), if_pos rfl, if_neg h]
theorem cell_77 {k : Int} (h : 0 ≤ k ∧ k < 400) : cellOf (890 + 2 * k) = (77, k) := by
  unfold cellOf
  rw [if_neg (by omega), if_neg (by omega), if_neg (by omega), if_neg (by omega), if_neg (by omega), if_neg (by omega), if_neg (by omega), if_neg (by omega), if_neg (by omega), if_neg (by omega), if_neg (by omega), if_pos (by omega)]
  congr 1
  omega
theorem imgP_77 {k : Int} (h : 0 ≤ k ∧ k < 400) : imgP 77 k = 890 + 2 * k := by
  unfold imgP
  rw [if_neg (by decide), if_neg (by decide), if_neg (by decide), if_neg (by decide), if_neg (by decide), if_neg (by decide), if_neg (by decide), if_neg (by decide), if_neg (by decide), if_neg (by decide), if_neg (by decide), if_neg (by decide), if_neg (by decide), if_neg (by decide), if_pos rfl, if_pos h]
theorem imgN_77 {k : Int} (h : ¬ (0 ≤ k ∧ k < 400)) : imgP 77 k = -1 := by
  unfold imgP
  rw [if_neg (by decide), if_neg (by decide), if_neg (by decide), if_neg (by decide), if_neg (by decide), if_neg (by decide), if_neg (by decide), if_neg (by decide), if_neg (by decide), if_neg (by decide), if_neg (by decide), if_neg (by decide), if_neg (by decide), if_neg (by decide), if_pos rfl, if_neg h]
theorem cell_78 {k : Int} (h : 0 ≤ k ∧ k < 400) : cellOf (890 + 2 * k + 1) = (78, k) := by
  unfold cellOf
  rw [if_neg (by omega), if_neg (by omega), if_neg (by omega), if_neg (by omega), if_neg (by omega), if_neg (by omega), if_neg (by omega), if_neg (by omega), if_neg (by omega), if_neg (by omega), if_neg (by omega), if_neg (by omega)]
  congr 1
  omega
theorem imgP_78 {k : Int} (h : 0 ≤ k ∧ k < 400) : imgP 78 k = 890 + 2 * k + 1 := by
  unfold imgP
  rw [if_neg (by decide), if_neg (by decide), if_neg (by decide), if_neg (by decide), if_neg (by decide), if_neg (by decide), if_neg (by decide), if_neg (by decide), if_neg (by decide), if_neg (by decide), if_neg (by decide), if_neg (by decide), if_neg (by decide), if_neg (by decide), if_neg (by decide), if_pos rfl, if_pos h]
theorem imgN_78 {k : Int} (h : ¬ (0 ≤ k ∧ k < 400)) : imgP 78 k = -1 := by
  unfold imgP
  rw [if_neg (by decide), if_neg (by decide), if_neg (by decide), if_neg (by decide), if_neg (by decide), if_neg (by decide), if_neg (by decide), if_neg (by decide), if_neg (by decide), if_neg (by decide), if_neg (by decide), if_neg (by decide), if_neg (by decide), if_neg (by decide), if_neg (by decide), if_pos rfl, if_neg h]
theorem cellOf_pos {A : Nat} {x : Int} (h : 0 ≤ imgP A x) : cellOf (imgP A x) = (A, x) := by
  by_cases a60 : A = 60
  · subst a60
    by_cases x1 : x = 1
    · subst x1; rfl
    by_cases x2 : x = 2
    · subst x2; rfl
    by_cases x3 : x = 11
    · subst x3; rfl
    by_cases x4 : x = 23
    · subst x4; rfl
    exfalso
    have e : imgP 60 x = -1 := by
      unfold imgP
      rw [if_pos rfl, if_neg x1, if_neg x2, if_neg x3, if_neg x4]
    omega
  by_cases a61 : A = 61
  · subst a61
    by_cases hx : 0 ≤ x ∧ x < 24
    · rw [imgP_61 hx]; exact cell_61 hx
    · rw [imgN_61 hx] at h; omega
  by_cases a62 : A = 62
  · subst a62
    by_cases hx : 0 ≤ x ∧ x < 24
    · rw [imgP_62 hx]; exact cell_62 hx
    · rw [imgN_62 hx] at h; omega
  by_cases a63 : A = 63
  · subst a63
    by_cases hx : 0 ≤ x ∧ x < 3
    · rw [imgP_63 hx]; exact cell_63 hx
    · rw [imgN_63 hx] at h; omega
  by_cases a64 : A = 64
  · subst a64
    by_cases hx : 0 ≤ x ∧ x < 3
    · rw [imgP_64 hx]; exact cell_64 hx
    · rw [imgN_64 hx] at h; omega
  by_cases a65 : A = 65
  · subst a65
    by_cases hx : 0 ≤ x ∧ x < 360
    · rw [imgP_65 hx]; exact cell_65 hx
    · rw [imgN_65 hx] at h; omega
  by_cases a66 : A = 66
  · subst a66
    by_cases hx : 0 ≤ x ∧ x < 256
    · rw [imgP_66 hx]; exact cell_66 hx
    · rw [imgN_66 hx] at h; omega
  by_cases a67 : A = 67
  · subst a67
    by_cases hx : 0 ≤ x ∧ x < 64
    · rw [imgP_67 hx]; exact cell_67 hx
    · rw [imgN_67 hx] at h; omega
  by_cases a68 : A = 68
  · subst a68
    by_cases hx : 0 ≤ x ∧ x < 64
    · rw [imgP_68 hx]; exact cell_68 hx
    · rw [imgN_68 hx] at h; omega
  by_cases a69 : A = 69
  · subst a69
    by_cases hx : 0 ≤ x ∧ x < 20
    · rw [imgP_69 hx]; exact cell_69 hx
    · rw [imgN_69 hx] at h; omega
  by_cases a70 : A = 70
  · subst a70
    by_cases hx : 0 ≤ x ∧ x < 20
    · rw [imgP_70 hx]; exact cell_70 hx
    · rw [imgN_70 hx] at h; omega
  by_cases a74 : A = 74
  · subst a74
    by_cases hx : 0 ≤ x ∧ x < 16
    · rw [imgP_74 hx]; exact cell_74 hx
    · rw [imgN_74 hx] at h; omega
  by_cases a75 : A = 75
  · subst a75
    by_cases hx : 0 ≤ x ∧ x < 16
    · rw [imgP_75 hx]; exact cell_75 hx
    · rw [imgN_75 hx] at h; omega
  by_cases a76 : A = 76
  · subst a76
    by_cases hx : 0 ≤ x ∧ x < 16
    · rw [imgP_76 hx]; exact cell_76 hx
    · rw [imgN_76 hx] at h; omega
  by_cases a77 : A = 77
  · subst a77
    by_cases hx : 0 ≤ x ∧ x < 400
    · rw [imgP_77 hx]; exact cell_77 hx
    · rw [imgN_77 hx] at h; omega
  by_cases a78 : A = 78
  · subst a78
    by_cases hx : 0 ≤ x ∧ x < 400
    · rw [imgP_78 hx]; exact cell_78 hx
    · rw [imgN_78 hx] at h; omega
  exfalso
  have e : imgP A x = -1 := by
    unfold imgP
    rw [if_neg a60, if_neg a61, if_neg a62, if_neg a63, if_neg a64, if_neg a65, if_neg a66, if_neg a67, if_neg a68, if_neg a69, if_neg a70, if_neg a74, if_neg a75, if_neg a76, if_neg a77, if_neg a78]
  omega
theorem imgP_inj {A B : Nat} {x y : Int} (h : 0 ≤ imgP A x) (e : imgP B y = imgP A x) : B = A ∧ y = x := by
  have h1 := cellOf_pos h
  have h2 := cellOf_pos (A := B) (x := y) (by omega)
  rw [e, h1] at h2
  exact ⟨(congrArg Prod.fst h2).symm, (congrArg Prod.snd h2).symm⟩
/-- taking, up to place K -/
def tkP (ν σ : ot_M) (K : Int) : Prop := (∀ k, k ∉ [60, 87] → σ k = ν k) ∧ (∀ j, j ≠ 45 → j ≠ 46 → j ≠ 47 → σ 60 j = ν 60 j) ∧ σ 60 47 = K ∧ σ 60 45 = 1 ∧ σ 60 46 = 1 ∧ ∀ j, 0 ≤ j → j < K → σ 87 j = ν (cellOf j).1 (cellOf j).2
/-- restoring, up to place K -/
def rsP (ν σ : ot_M) (K : Int) : Prop := (∀ A x, A ≠ 87 → ¬ (A = 60 ∧ 45 ≤ x ∧ x ≤ 47) → σ A x = if 0 ≤ imgP A x ∧ imgP A x < K then ν 87 (imgP A x) else ν A x) ∧ σ 87 = ν 87 ∧ σ 60 47 = K ∧ σ 60 45 = 0 ∧ σ 60 46 = 1
theorem tkP_K {ν σ : ot_M} {K K2 : Int} (h : tkP ν σ K) (e : K = K2) : tkP ν σ K2 := e ▸ h
theorem rsP_K {ν σ : ot_M} {K K2 : Int} (h : rsP ν σ K) (e : K = K2) : rsP ν σ K2 := e ▸ h
theorem tkP_set {ν σ : ot_M} {K : Int} {A : Nat} {x v : Int} (h : tkP ν σ K) (hA : A ∉ [60, 87] ∨ (A = 60 ∧ x ≠ 45 ∧ x ≠ 46 ∧ x ≠ 47)) (hv : v = ν A x) : tkP ν (ot_up σ A x v) K := by
  rw [ot_nop (by
    rw [hv]
    rcases hA with w | w
    · rw [h.1 A w]
    · rw [w.1]; exact h.2.1 x w.2.1 w.2.2.1 w.2.2.2)]
  exact h
theorem tkP_step {ν σ : ot_M} {K v : Int} (h : tkP ν σ K) (hK : 0 ≤ K) (hv : v = ν (cellOf K).1 (cellOf K).2) : tkP ν (ot_up (ot_up σ 60 47 (K + 1)) 87 K v) (K + 1) := by
  refine ⟨fun k hk => ?_, fun j j1 j2 j3 => ?_, ?_, ?_, ?_, fun j j1 j2 => ?_⟩
  · rw [ot_rdf (fun w => hk (by rw [w]; decide)), ot_rdf (fun w => hk (by rw [w]; decide))]; exact h.1 k hk
  · rw [ot_rd (by decide), ot_rf j3]; exact h.2.1 j j1 j2 j3
  · rw [ot_rd (by decide), ot_rs]
  · rw [ot_rd (by decide), ot_rf (by decide)]; exact h.2.2.2.1
  · rw [ot_rd (by decide), ot_rf (by decide)]; exact h.2.2.2.2.1
  · by_cases w : j = K
    · subst w; rw [ot_rs]; exact hv
    · rw [ot_rf w, ot_rd (by decide)]; exact h.2.2.2.2.2 j j1 (by omega)
theorem rsP_set {ν σ : ot_M} {K v x : Int} {A : Nat} (h : rsP ν σ K) (hK : 0 ≤ K) (hp : imgP A x = K) (hv : v = ν 87 K) (hA : A ≠ 87) (hx : ¬ (A = 60 ∧ 45 ≤ x ∧ x ≤ 47)) : rsP ν (ot_up (ot_up σ 60 47 (K + 1)) A x v) (K + 1) := by
  refine ⟨fun B y hB hy => ?_, ?_, ?_, ?_, ?_⟩
  · by_cases w : B = A ∧ y = x
    · obtain ⟨rfl, rfl⟩ := w
      rw [ot_rs, hp, if_pos (by omega)]; exact hv
    · have e1 : ot_up (ot_up σ 60 47 (K + 1)) A x v B y = σ B y := by
        simp only [ot_up]
        by_cases w1 : B = A
        · rw [if_pos w1, if_neg (fun w2 => w ⟨w1, w2⟩)]
          by_cases w3 : A = 60
          · rw [if_pos w3, if_neg (by omega), w1, w3]
          · rw [if_neg w3, w1]
        · rw [if_neg w1]
          by_cases w3 : B = 60
          · rw [if_pos w3, if_neg (by omega), w3]
          · rw [if_neg w3]
      rw [e1, h.1 B y hB hy]
      have hne : imgP B y ≠ K := fun q => w (imgP_inj (by omega) (by omega))
      by_cases w2 : 0 ≤ imgP B y ∧ imgP B y < K
      · rw [if_pos w2, if_pos (by omega)]
      · rw [if_neg w2, if_neg (by omega)]
  · rw [ot_rdf (Ne.symm hA), ot_rdf (by decide)]; exact h.2.1
  · by_cases w : A = 60
    · subst w; rw [ot_rf (by omega), ot_rs]
    · rw [ot_rd (Ne.symm w), ot_rs]
  · by_cases w : A = 60
    · subst w; rw [ot_rf (by omega), ot_rf (by decide)]; exact h.2.2.2.1
    · rw [ot_rd (Ne.symm w), ot_rf (by decide)]; exact h.2.2.2.1
  · by_cases w : A = 60
    · subst w; rw [ot_rf (by omega), ot_rf (by decide)]; exact h.2.2.2.2
    · rw [ot_rd (Ne.symm w), ot_rf (by decide)]; exact h.2.2.2.2
theorem tkP_cell {ν : ot_M} {K k : Int} {A : Nat} (h : cellOf K = (A, k)) : ν (cellOf K).1 (cellOf K).2 = ν A k := by rw [h]
set_option maxRecDepth 100000 in
set_option maxHeartbeats 1000000 in
theorem q_keptT (l : Launch) (g : ot_G) (ln : Nat) (ext : ot_L) (μ : ot_M) (ν : ot_M) (K v : Int) (hK : 0 ≤ K ∧ K < 1800) (hP : tkP ν μ K) (hv : v = ν (cellOf K).1 (cellOf K).2) : ot_C l g yX10_kept cX10_kept 2 (some .int) 0 0 0 [.inr 60, .inl v] (LL ln ext) μ (ot_pi (fun r L2 μ2 => L2 = LL ln ext ∧ tkP ν μ2 (K + 1) ∧ r = v)) := by
  refine ot_enter (by decide) (Nat.le_of_ble_eq_true rfl) ?_
  intro p e s m args below meth c X hr
  have h45 := hP.2.2.2.1
  have h47 := hP.2.2.1
  refine tt_aload_n X rfl dX10_kept_0 ?_
  refine tt_aload_n X rfl dX10_kept_1 ?_
  refine tt_geti X fX10_323 (k_60 _ _) (by decide) (Or.inl rfl) dX10_kept_2 ?_
  refine tt_iconst X dX10_kept_5 ?_
  refine tt_iadd X dX10_kept_6 ?_
  refine tt_puti X fX10_323 kc_10 (k_60 _ _) (by decide) (fun q hq => by cases hq; rfl) rfl dX10_kept_7 ?_
  refine tt_aload_n X rfl dX10_kept_10 ?_
  refine tt_geti X fX10_326 (k_60 _ _) (by decide) (Or.inr rfl) dX10_kept_11 ?_
  try simp (disch := decide) only [ot_rd, ot_rs, ot_rf, ot_ucd, ot_ucs]
  refine tt_if_ne X 29 (by first | omega | (simp (disch := decide) only [ot_rd, ot_rs, ot_rf, ot_ucd, ot_ucs]; omega)) dX10_kept_14 (by decide) (fun b14 => ?_) (fun b14 => ?_)
  · refine tt_aload_n X rfl dX10_kept_29 ?_
    refine tt_getr X fX10_95 (k_60 _ _) (by decide) ⟨nofun, nofun⟩ rfl dX10_kept_30 ?_
    refine tt_aload_n X rfl dX10_kept_33 ?_
    refine tt_geti X fX10_323 (k_60 _ _) (by decide) (Or.inl rfl) dX10_kept_34 ?_
    try simp (disch := decide) only [ot_rd, ot_rs, ot_rf, ot_ucd, ot_ucs]
    refine tt_iconst X dX10_kept_37 ?_
    refine tt_isub X dX10_kept_38 ?_
    refine tt_iload_n X rfl dX10_kept_39 ?_
    refine tt_iastore X (k_87 _ _) (by first | omega | (simp (disch := decide) only [ot_rd, ot_rs, ot_rf, ot_ucd, ot_ucs]; omega)) dX10_kept_40 ?_
    refine tt_iload_n X rfl dX10_kept_41 ?_
    refine tt_iret X ⟨hr.1, hr.2.1⟩ (by decide) (by decide) dX10_kept_42 ?_
    refine ⟨rfl, ?_, rfl⟩
    rw [h47, show K + 1 - 1 = K by omega]
    exact tkP_step hP hK.1 hv
  · exact absurd b14 (by first | omega | (simp (disch := decide) only [ot_rd, ot_rs, ot_rf, ot_ucd, ot_ucs, ot_rdf]; omega))
set_option maxRecDepth 100000 in
set_option maxHeartbeats 1000000 in
theorem q_keptR (l : Launch) (g : ot_G) (ln : Nat) (ext : ot_L) (μ : ot_M) (ν : ot_M) (K v : Int) (hK : 0 ≤ K ∧ K < 1800) (hP : rsP ν μ K) : ot_C l g yX10_kept cX10_kept 2 (some .int) 0 0 0 [.inr 60, .inl v] (LL ln ext) μ (ot_pi (fun r L2 μ2 => L2 = LL ln ext ∧ μ2 = ot_up μ 60 47 (K + 1) ∧ r = ν 87 K)) := by
  refine ot_enter (by decide) (Nat.le_of_ble_eq_true rfl) ?_
  intro p e s m args below meth c X hr
  have h45 := hP.2.2.2.1
  have h47 := hP.2.2.1
  refine tt_aload_n X rfl dX10_kept_0 ?_
  refine tt_aload_n X rfl dX10_kept_1 ?_
  refine tt_geti X fX10_323 (k_60 _ _) (by decide) (Or.inl rfl) dX10_kept_2 ?_
  refine tt_iconst X dX10_kept_5 ?_
  refine tt_iadd X dX10_kept_6 ?_
  refine tt_puti X fX10_323 kc_10 (k_60 _ _) (by decide) (fun q hq => by cases hq; rfl) rfl dX10_kept_7 ?_
  refine tt_aload_n X rfl dX10_kept_10 ?_
  refine tt_geti X fX10_326 (k_60 _ _) (by decide) (Or.inr rfl) dX10_kept_11 ?_
  try simp (disch := decide) only [ot_rd, ot_rs, ot_rf, ot_ucd, ot_ucs]
  refine tt_if_ne X 29 (by first | omega | (simp (disch := decide) only [ot_rd, ot_rs, ot_rf, ot_ucd, ot_ucs]; omega)) dX10_kept_14 (by decide) (fun b14 => ?_) (fun b14 => ?_)
  · exact absurd b14 (by first | omega | (simp (disch := decide) only [ot_rd, ot_rs, ot_rf, ot_ucd, ot_ucs, ot_rdf]; omega))
  · refine tt_aload_n X rfl dX10_kept_17 ?_
    refine tt_getr X fX10_95 (k_60 _ _) (by decide) ⟨nofun, nofun⟩ rfl dX10_kept_18 ?_
    refine tt_aload_n X rfl dX10_kept_21 ?_
    refine tt_geti X fX10_323 (k_60 _ _) (by decide) (Or.inl rfl) dX10_kept_22 ?_
    try simp (disch := decide) only [ot_rd, ot_rs, ot_rf, ot_ucd, ot_ucs]
    refine tt_iconst X dX10_kept_25 ?_
    refine tt_isub X dX10_kept_26 ?_
    refine tt_iaload X (k_87 _ _) (by first | omega | (simp (disch := decide) only [ot_rd, ot_rs, ot_rf, ot_ucd, ot_ucs]; omega)) dX10_kept_27 ?_
    try simp (disch := decide) only [ot_rd, ot_rs, ot_rf, ot_ucd, ot_ucs]
    refine tt_iret X ⟨hr.1, hr.2.1⟩ (by decide) (by decide) dX10_kept_28 ?_
    refine ⟨rfl, by rw [h47], ?_⟩
    rw [h47, show K + 1 - 1 = K by omega, hP.2.1]

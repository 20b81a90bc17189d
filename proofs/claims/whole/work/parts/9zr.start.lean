/-! the first state -/
def zM : ot_M := fun _ _ => 0
def m0M : ot_M := refM (ot_up (boardK (boardM zM 4) 4) 0 12 (-1))
def stM : ot_M := ot_uc (ot_uc m0M 5 (fun _ => 1)) 11 (fun _ => -1)
theorem stM_0 (i : Int) : stM 0 i = if i = 12 then -1 else 0 := by
  simp [stM, m0M, refM, boardK, boardM, ot_up, ot_uc, zM]
theorem stM_1 (i : Int) : stM 1 i = if i = 11 then 4 else 0 := by
  simp [stM, m0M, refM, boardK, boardM, ot_up, ot_uc, zM]
  try (split <;> simp_all)
theorem stM_12 (i : Int) : stM 12 i = 0 := by
  simp [stM, m0M, refM, boardK, boardM, ot_up, ot_uc, zM]
theorem stM_60 (i : Int) : stM 60 i = if i = 36 then -1 else if i = 1 then 4 else 0 := by
  simp [stM, m0M, refM, boardK, boardM, ot_up, ot_uc, zM]
theorem stM_z {k : Nat} (h : k ≠ 0 ∧ k ≠ 1 ∧ k ≠ 4 ∧ k ≠ 5 ∧ k ≠ 6 ∧ k ≠ 8 ∧ k ≠ 11 ∧ k ≠ 12 ∧ k ≠ 17 ∧ k ≠ 20 ∧ k ≠ 21 ∧ k ≠ 22 ∧ k ≠ 24 ∧ k ≠ 27 ∧ k ≠ 28 ∧ k ≠ 60 ∧ k ≠ 63 ∧ k ≠ 73) : stM k = zZ := by
  funext i
  simp [stM, m0M, refM, boardK, boardM, ot_up, ot_uc, zM, h, zZ]
theorem stM_4 : stM 4 = zZ := by
  funext i
  simp [stM, m0M, refM, boardK, boardM, ot_up, ot_uc, zM, wr, zZ]
theorem stM_5 : stM 5 = fun _ => 1 := by
  funext i
  simp [stM, ot_uc]
theorem stM_11 : stM 11 = fun _ => -1 := by
  funext i
  simp [stM, ot_uc]
theorem stM_8 : stM 8 = zZ := by
  funext i
  simp [stM, m0M, refM, boardK, boardM, ot_up, ot_uc, zM, wr, zZ]
theorem stM_6 : stM 6 = shF := by
  funext i
  simp [stM, m0M, refM, boardK, boardM, ot_up, ot_uc, zM, wr, shF, up1, zZ]
  by_cases h0 : i = 0
  · subst h0; decide
  · by_cases h1 : i = 1
    · subst h1; decide
    · by_cases h2 : i = 2
      · subst h2; decide
      · rw [if_neg h2, if_neg h1, if_neg h0, if_neg (by omega)]
theorem stM_63 : stM 63 = shF := by
  funext i
  simp [stM, m0M, refM, ot_up, ot_uc]
theorem stM_73 : stM 73 = wdF := by
  funext i
  simp [stM, m0M, refM, ot_up, ot_uc]
set_option maxRecDepth 100000 in
theorem wdF_ok : gWd wdF := by
  unfold gWd
  decide +kernel
theorem rel_start : rel stM := by
  have e2 : stM 2 = zZ := stM_z (by decide)
  have e3 : stM 3 = zZ := stM_z (by decide)
  have e7 : stM 7 = zZ := stM_z (by decide)
  have e9 : stM 9 = zZ := stM_z (by decide)
  have e10 : stM 10 = zZ := stM_z (by decide)
  have hc0 : ∀ t : Int, stM 8 t = 0 := fun t => by rw [stM_8]; rfl
  refine ⟨?_, ?_, ⟨fun k k1 k2 => ?_, fun k k1 k2 => ?_⟩, ?_, ?_, ⟨?_, ?_, ?_, ?_, ?_⟩, ?_, ?_, ?_⟩
  · unfold rOk
    rw [stM_1, stM_1, stM_1, stM_5, stM_11, e2, e3, e9, e10]
    refine ⟨⟨by decide, by decide, fun i i1 i2 => ?_, fun i j i1 i2 => ?_⟩, fun t t1 t2 => ?_, fun t t1 t2 => ?_, fun k k1 k2 => (by show 0 ≤ (1 : Int) ∧ (1 : Int) ≤ 9; decide), fun p k p1 p2 k1 k2 => ?_, ⟨by decide, fun l hl => ?_, fun l hl => absurd hl (by simp), fun l k _ hk => absurd hk (by simp)⟩, fun l hl => ?_, fun k k1 k2 => (by show -1 ≤ (-1 : Int) ∧ (-1 : Int) ≤ 9999; decide)⟩
    · simp at i2; omega
    · simp at i2; omega
    · rw [hc0]
      exact ⟨by decide, fun i i1 i2 => by omega, fun i i1 i2 => by omega⟩
    · rw [stM_6]
      unfold shF up1 zZ
      split
      · decide
      · split
        · decide
        · split <;> decide
    · rw [stM_4]
      exact ⟨by unfold zZ; decide, fun _ => rfl⟩
    · simp at hl; omega
    · simp at hl; omega
  · unfold rCh
    refine gChd_zero ?_ (fun c _ _ => ?_)
    · rw [stM_1]; decide
    · rw [stM_z (by decide)]; rfl
  · rw [stM_z (k := 34) (by decide), dk_w]
    exact (wsum_zero (fun t i t1 t2 i1 i2 => by rw [hc0] at i2; omega)).symm
  · rw [stM_z (k := 35) (by decide), usC_w]
    exact (wsum_zero (fun t i t1 t2 i1 i2 => by rw [hc0] at i2; omega)).symm
  · exact rUn_0 (by rw [stM_0]; decide) (fun t _ _ => by rw [hc0]; decide)
  · unfold rTp
    rw [stM_0, stM_z (k := 58) (by decide)]
    exact ⟨by decide, fun k => by unfold zZ; decide⟩
  · rw [stM_12]
    exact ⟨by decide, fun l l1 l2 => by omega⟩
  · intro j _ _
    rw [stM_z (k := 15) (by decide)]
    exact Or.inl rfl
  · intro j _ _
    rw [stM_z (k := 53) (by decide)]
    exact Or.inl rfl
  · rw [stM_60]; decide
  · rw [stM_73]; exact wdF_ok
  · unfold rSc
    simp only [stM_60, stM_1, stM_12, stM_0]
    decide
  · unfold rAr
    rw [stM_z (k := 61) (by decide), stM_z (k := 62) (by decide), stM_z (k := 66) (by decide), stM_z (k := 67) (by decide), stM_63, stM_z (k := 65) (by decide), stM_z (k := 64) (by decide), stM_z (k := 69) (by decide), stM_z (k := 70) (by decide), stM_z (k := 68) (by decide), stM_z (k := 72) (by decide), stM_z (k := 71) (by decide), e2, e3, stM_4, stM_5, stM_6, e7, stM_8, e9, e10, stM_11, stM_z (k := 58) (by decide), stM_z (k := 59) (by decide)]
    exact ⟨rfl, rfl, rfl, rfl, rfl, rfl, rfl, rfl, rfl, rfl, rfl, rfl⟩
  · refine ⟨Or.inl (by rw [stM_0]; decide), fun h => ?_⟩
    rw [stM_0] at h
    exact absurd h (by decide)
section OTE
variable {p : Program} {l : Launch} {e : Env} {R : Room} {s : State} {m : MethodId} {args : Array Value} {below : List Frame} {meth : Method} {c : Code} {g : ot_G} {nL cells slots : Nat} {Q : State → Prop} {cc : ByteArray} {own : String}
variable {L : ot_L} {μ : ot_M} {pc : Nat} {lv : List (Nat × Value)} {st : List Value}
/-- what lies beside an array's places does not count -/
theorem tv_ext {k0 n : Nat} {rs : List (Option Nat)} {f : Int → Int} (hk : L[k0]? = some (0, n, rs)) (hf : ∀ j : Nat, j < n → f (j : Int) = μ k0 (j : Int)) (k : ot_TV p l e R s m args below meth c g nL cells slots Q L (ot_uc μ k0 f) pc lv st) : ot_TV p l e R s m args below meth c g nL cells slots Q L μ pc lv st := by
  intro H locs ls hP hS hl
  refine k H locs ls ⟨fun q x hx => ?_, hP.2⟩ hS hl
  by_cases w : q = k0
  · subst w
    have h1 := hP.1 q _ (ot_w_at hk)
    rw [ot_w_at hk] at hx
    cases hx
    have e2 : ot_c g (ot_uc μ q f q) (0, n, rs) = .inl (g.2.2.1, n, .inl (fun j => Int32.ofInt (f (j : Int)))) := by
      rw [ot_ucs]
      rfl
    rw [e2]
    show H[g.1.size + q]? = some (vp_cell _ _)
    have h2 : H[g.1.size + q]? = some (vp_cell g.2.2.1 (n, .inl (fun j => Int32.ofInt (μ q (j : Int))))) := h1
    rw [h2, vp_cell_i, vp_cell_i]
    congr 1
    unfold arrV
    congr 1
    apply Array.ext
    · simp
    · intro j hj1 hj2
      simp at hj1
      simp [hf j hj1]
  · refine hP.1 q x ?_
    rw [ot_w_get] at hx ⊢
    rw [ot_ucd w] at hx
    exact hx
end OTE

/-- memory that is the same but for some cells -/
def eqx (ks : List Nat) (μ μ2 : ot_M) : Prop := ∀ k, k ∉ ks → μ2 k = μ k
theorem eqx_rfl (ks : List Nat) (μ : ot_M) : eqx ks μ μ := fun _ _ => rfl
theorem eqx_trans {ks : List Nat} {μ μ2 μ3 : ot_M} (h : eqx ks μ μ2) (h2 : eqx ks μ2 μ3) : eqx ks μ μ3 := fun k hk => (h2 k hk).trans (h k hk)
theorem eqx_mono {ks ks2 : List Nat} {μ μ2 : ot_M} (h : eqx ks μ μ2) (hs : ∀ k, k ∉ ks2 → k ∉ ks) : eqx ks2 μ μ2 := fun k hk => h k (hs k hk)
theorem eqx_uc {ks : List Nat} {μ μ2 : ot_M} {c : Nat} {f : Int → Int} (h : eqx ks μ μ2) (hc : c ∈ ks) : eqx ks μ (ot_uc μ2 c f) := fun k hk => by
  have hne : k ≠ c := fun e => hk (by rw [e]; exact hc)
  rw [ot_ucd hne]
  exact h k hk
theorem eqx_up {ks : List Nat} {μ μ2 : ot_M} {c : Nat} {i v : Int} (h : eqx ks μ μ2) (hc : c ∈ ks) : eqx ks μ (ot_up μ2 c i v) := by
  rw [ot_up_uc]; exact eqx_uc h hc
/-- the next pin that helps most: the pin, and by how much -/
def nxS (may gain : Int → Int) : Nat → Int × Int
  | 0 => (-1, 0)
  | k + 1 => if may (k : Int) = 1 ∧ ((nxS may gain k).1 = -1 ∨ (nxS may gain k).2 < gain (k : Int)) then ((k : Int), gain (k : Int)) else nxS may gain k
theorem nxS_toNat (may gain : Int → Int) {i : Int} (h : 0 ≤ i) : nxS may gain (i + 1).toNat = if may i = 1 ∧ ((nxS may gain i.toNat).1 = -1 ∨ (nxS may gain i.toNat).2 < gain i) then (i, gain i) else nxS may gain i.toNat := by
  rw [show (i + 1).toNat = i.toNat + 1 by omega]
  show (if may (i.toNat : Int) = 1 ∧ _ then _ else _) = _
  rw [show (i.toNat : Int) = i by omega]
theorem nxS_may {may gain : Int → Int} : ∀ {k : Nat}, nxS may gain k = (-1, 0) ∨ (0 ≤ (nxS may gain k).1 ∧ (nxS may gain k).1 < k ∧ may (nxS may gain k).1 = 1 ∧ (nxS may gain k).2 = gain (nxS may gain k).1)
  | 0 => Or.inl rfl
  | k + 1 => by
    by_cases h : may (k : Int) = 1 ∧ ((nxS may gain k).1 = -1 ∨ (nxS may gain k).2 < gain (k : Int))
    · have e : nxS may gain (k + 1) = ((k : Int), gain (k : Int)) := if_pos h
      rw [e]
      exact Or.inr ⟨by show (0 : Int) ≤ k; omega, by show (k : Int) < ((k + 1 : Nat) : Int); omega, h.1, rfl⟩
    · have e : nxS may gain (k + 1) = nxS may gain k := if_neg h
      rw [e]
      rcases nxS_may (may := may) (gain := gain) (k := k) with q | q
      · exact Or.inl q
      · exact Or.inr ⟨q.1, by omega, q.2.2⟩
theorem mayS_can {op arg lw lf lt px py cnt row sh : Int → Int} {m t q : Int} (h : mayS op arg lw lf lt m px py cnt row sh t q = 1) : cnt t < 120 ∧ (cnt t = 0 ∨ row (120 * t + (cnt t - 1)) ≠ q) := by
  unfold mayS at h
  split at h
  · assumption
  · omega
def gnS (S : Int) (px py sh w want : Int → Int) (pic t : Int) (cnt row : Int → Int) (q : Int) : Int := gainS w want (dk S px py cnt row sh) (smp S px py (row (120 * t + (cnt t - 1))) q) pic (sh t)
def nextS (op arg lw lf lt : Int → Int) (m S n : Int) (px py sh w want : Int → Int) (pic t : Int) (cnt row : Int → Int) : Int × Int :=
  if cnt t = 0 then (-1, 0) else nxS (fun q => mayS op arg lw lf lt m px py cnt row sh t q) (gnS S px py sh w want pic t cnt row) n.toNat
theorem nextS_may {op arg lw lf lt : Int → Int} {m S n : Int} {px py sh w want : Int → Int} {pic t : Int} {cnt row : Int → Int} {a b : Int} (h : (a, b) = nextS op arg lw lf lt m S n px py sh w want pic t cnt row) : (a = -1 ∧ b = 0) ∨ (0 ≤ a ∧ a < n ∧ 1 ≤ cnt t ∨ cnt t < 0 ∧ 0 ≤ a ∧ a < n) ∧ mayS op arg lw lf lt m px py cnt row sh t a = 1 ∧ b = gnS S px py sh w want pic t cnt row a := by
  unfold nextS at h
  split at h
  · cases h; exact Or.inl ⟨rfl, rfl⟩
  · rcases nxS_may (may := fun q => mayS op arg lw lf lt m px py cnt row sh t q) (gain := gnS S px py sh w want pic t cnt row) (k := n.toNat) with q | q
    · rw [q] at h; cases h; exact Or.inl ⟨rfl, rfl⟩
    · rw [← h] at q
      refine Or.inr ⟨?_, q.2.2⟩
      have q1 : 0 ≤ a := q.1
      have q2 : a < (n.toNat : Int) := q.2.1
      omega
theorem gainS_congr {w w2 want want2 d d2 sm sm2 : Int → Int} {p x : Int} (h : ∀ k, 0 ≤ k → k < 64 → w k = w2 k ∧ want (64 * p + k) = want2 (64 * p + k) ∧ d k = d2 k ∧ sm k = sm2 k) : gainS w want d sm p x = gainS w2 want2 d2 sm2 p x :=
  sumN_congr (fun k k1 k2 => by
    obtain ⟨h1, h2, h3, h4⟩ := h k k1 (by omega)
    rw [h1, h2, h3, h4])
/-- going on by the greedy way, at most so often: how often, and the windings then -/
def grS (nx : (Int → Int) → (Int → Int) → Int × Int) (t : Int) : Nat → (Int → Int) → (Int → Int) → Int × (Int → Int) × (Int → Int)
  | 0, cnt, row => (0, cnt, row)
  | k + 1, cnt, row => if (nx cnt row).1 = -1 ∨ (nx cnt row).2 ≤ 0 then (0, cnt, row) else
      ((grS nx t k (up1 cnt t (cnt t + 1)) (up1 row (120 * t + cnt t) (nx cnt row).1)).1 + 1, (grS nx t k (up1 cnt t (cnt t + 1)) (up1 row (120 * t + cnt t) (nx cnt row).1)).2)
/-- what is kept for undo -/
def undoA (f : Int → Int) (u t : Int) : Int → Int := if u < 40 then up1 f u t else up1 (cpy f f 1 0 39) 39 t
theorem gnS_bd {S n pic t q : Int} {px py sh w want cnt row : Int → Int} (hG : gPin S n px py) (hw : ∀ k, 0 ≤ k → k < 64 → 0 ≤ w k ∧ w k ≤ 9) (hs : 0 ≤ sh t ∧ sh t ≤ 9) (hp : 0 ≤ row (120 * t + (cnt t - 1)) ∧ row (120 * t + (cnt t - 1)) < n) (hq : 0 ≤ q ∧ q < n) (hne : row (120 * t + (cnt t - 1)) ≠ q) : -41472 ≤ gnS S px py sh w want pic t cnt row q ∧ gnS S px py sh w want pic t cnt row q ≤ 41472 :=
  gainS_bd hw (by omega) (fun k _ _ => smp_bd hG hp hq hne k)
section OT
variable {p : Program} {l : Launch} {e : Env} {R : Room} {s : State} {m : MethodId} {args : Array Value} {below : List Frame} {meth : Method} {c : Code} {g : ot_G} {nL cells slots : Nat} {Q : State → Prop} {L : ot_L} {μ : ot_M} {pc : Nat} {lv : List (Nat × ot_V)} {st : List ot_V}
/-- give the memory a name -/
theorem tt_gen (k : ∀ σ : ot_M, σ = μ → ot_T p l e R s m args below meth c g nL cells slots Q L σ pc lv st) : ot_T p l e R s m args below meth c g nL cells slots Q L μ pc lv st := k μ rfl
end OT

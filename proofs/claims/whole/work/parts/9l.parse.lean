/-! the law's text as it is read: machines over tokens -/
abbrev CL : Type := List (Int × Int)
abbrev RS : Type := (Int × Nat) ⊕ (Nat × CL)
def itR {S R : Type} (st : S → R ⊕ S → Prop) : Nat → S → R → Prop
  | 0, _, _ => False
  | n + 1, s, r => st s (.inl r) ∨ ∃ s2, st s (.inr s2) ∧ itR st n s2 r
def rsl {S R : Type} (st : S → R ⊕ S → Prop) (s : S) (r : R) : Prop := ∃ n, itR st n s r
theorem rsl_done {S R : Type} {st : S → R ⊕ S → Prop} (hd : ∀ s a b, st s a → st s b → a = b) {s : S} {r0 : R} (h : st s (.inl r0)) (r : R) : rsl st s r ↔ r = r0 := by
  constructor
  · rintro ⟨n, hn⟩
    cases n with
    | zero => exact absurd hn id
    | succ n =>
      rcases hn with q | ⟨s2, q, _⟩
      · exact Sum.inl.inj (hd _ _ _ q h)
      · cases hd _ _ _ q h
  · intro e
    exact ⟨1, .inl (e ▸ h)⟩
theorem rsl_step {S R : Type} {st : S → R ⊕ S → Prop} (hd : ∀ s a b, st s a → st s b → a = b) {s s2 : S} (h : st s (.inr s2)) (r : R) : rsl st s r ↔ rsl st s2 r := by
  constructor
  · rintro ⟨n, hn⟩
    cases n with
    | zero => exact absurd hn id
    | succ n =>
      rcases hn with q | ⟨s3, q, q2⟩
      · cases hd _ _ _ q h
      · have := Sum.inr.inj (hd _ _ _ q h)
        subst this
        exact ⟨n, q2⟩
  · rintro ⟨n, hn⟩
    exact ⟨n + 1, .inr ⟨s2, h, hn⟩⟩
theorem itR_det {S R : Type} {st : S → R ⊕ S → Prop} (hd : ∀ s a b, st s a → st s b → a = b) : ∀ n m s r r2, itR st n s r → itR st m s r2 → r = r2
  | 0, _, _, _, _, h, _ => absurd h id
  | n + 1, 0, _, _, _, _, h => absurd h id
  | n + 1, m + 1, s, r, r2, h1, h2 => by
    rcases h1 with q | ⟨s1, q, q1⟩
    · rcases h2 with p | ⟨s2, p, p1⟩
      · exact Sum.inl.inj (hd _ _ _ q p)
      · cases hd _ _ _ q p
    · rcases h2 with p | ⟨s2, p, p1⟩
      · cases hd _ _ _ q p
      · have := Sum.inr.inj (hd _ _ _ q p)
        subst this
        exact itR_det hd n m _ r r2 q1 p1
theorem rsl_det {S R : Type} {st : S → R ⊕ S → Prop} (hd : ∀ s a b, st s a → st s b → a = b) {s : S} {r r2 : R} (h1 : rsl st s r) (h2 : rsl st s r2) : r = r2 := by
  obtain ⟨n, hn⟩ := h1
  obtain ⟨m, hm⟩ := h2
  exact itR_det hd n m s r r2 hn hm
theorem rsl_same {S R : Type} {st : S → R ⊕ S → Prop} {s s2 : S} (h : ∀ o, st s o ↔ st s2 o) (r : R) : rsl st s r ↔ rsl st s2 r := by
  constructor
  · rintro ⟨n, hn⟩
    cases n with
    | zero => exact absurd hn id
    | succ n =>
      refine ⟨n + 1, ?_⟩
      rcases hn with q | ⟨s3, q, q2⟩
      · exact .inl ((h _).mp q)
      · exact .inr ⟨s3, (h _).mp q, q2⟩
  · rintro ⟨n, hn⟩
    cases n with
    | zero => exact absurd hn id
    | succ n =>
      refine ⟨n + 1, ?_⟩
      rcases hn with q | ⟨s3, q, q2⟩
      · exact .inl ((h _).mpr q)
      · exact .inr ⟨s3, (h _).mpr q, q2⟩
/-- a number or a fact -/
def unR (tk vl : Nat → Int) (j : Nat) (cs : CL) : RS := if tk j = 20 then .inr (j + 1, cs ++ [(0, vl j)]) else if 6 ≤ tk j ∧ tk j < 14 then .inr (j + 1, cs ++ [(1, tk j - 6)]) else .inl (1, j)
def wlR (w : Int) : CL := if w = 0 then [] else [(w, 0)]
def sstR (tk vl : Nat → Int) (s : Nat × CL × Int) : RS ⊕ (Nat × CL × Int) :=
  if tk s.1 = 42 then (match unR tk vl (s.1 + 1) s.2.1 with
    | .inl f => .inl (.inl f)
    | .inr q => .inr (q.1, q.2 ++ [(4, 0)], s.2.2))
  else if tk s.1 = 47 then (if tk (s.1 + 1) ≠ 20 then .inl (.inl (1, s.1 + 1)) else if vl (s.1 + 1) = 0 then .inl (.inl (2, s.1 + 1)) else .inr (s.1 + 2, s.2.1 ++ [(0, vl (s.1 + 1))] ++ [(5, 0)], s.2.2))
  else if tk s.1 = 43 ∨ tk s.1 = 45 then (match unR tk vl (s.1 + 1) (s.2.1 ++ wlR s.2.2) with
    | .inl f => .inl (.inl f)
    | .inr q => .inr (q.1, q.2, if tk s.1 = 43 then 2 else 3))
  else .inl (.inr (s.1, s.2.1 ++ wlR s.2.2))
def sR (tk vl : Nat → Int) (s : Nat × CL × Int) (r : RS) : Prop := rsl (fun s o => o = sstR tk vl s) s r
theorem sR_d {tk vl : Nat → Int} : ∀ (s : Nat × CL × Int) (a b : RS ⊕ (Nat × CL × Int)), a = sstR tk vl s → b = sstR tk vl s → a = b := fun _ _ _ h1 h2 => h1.trans h2.symm
theorem sR_done {tk vl : Nat → Int} {s : Nat × CL × Int} {r0 : RS} (h : sstR tk vl s = .inl r0) : sR tk vl s r0 := (rsl_done sR_d h.symm r0).mpr rfl
theorem sR_step {tk vl : Nat → Int} {s s2 : Nat × CL × Int} (h : sstR tk vl s = .inr s2) (r : RS) : sR tk vl s r ↔ sR tk vl s2 r := rsl_step sR_d h.symm r
/-- a waiting sign is settled where no product goes on -/
theorem sR_wait {tk vl : Nat → Int} {j : Nat} {cs : CL} {w : Int} (h1 : tk j ≠ 42) (h2 : tk j ≠ 47) (r : RS) : sR tk vl (j, cs, w) r ↔ sR tk vl (j, cs ++ wlR w, 0) r := by
  refine rsl_same (fun o => ?_) r
  have e : sstR tk vl (j, cs, w) = sstR tk vl (j, cs ++ wlR w, 0) := by
    unfold sstR
    dsimp only
    rw [if_neg h1, if_neg h2, if_neg h1, if_neg h2, show wlR 0 = [] from rfl, List.append_nil]
  rw [e]
def suR (tk vl : Nat → Int) (j : Nat) (cs : CL) (r : RS) : Prop := match unR tk vl j cs with
  | .inl f => r = .inl f
  | .inr q => sR tk vl (q.1, q.2, 0) r
theorem suR_det {tk vl : Nat → Int} {j : Nat} {cs : CL} {r r2 : RS} (h1 : suR tk vl j cs r) (h2 : suR tk vl j cs r2) : r = r2 := by
  unfold suR at h1 h2
  cases e : unR tk vl j cs with
  | inl f => rw [e] at h1 h2; dsimp only at h1 h2; rw [h1, h2]
  | inr q => rw [e] at h1 h2; exact rsl_det sR_d h1 h2
def cmC (t : Int) : Int := if t = 60 then 6 else if t = 61 then 7 else 8
def cmR (tk vl : Nat → Int) (j : Nat) (cs : CL) (r : RS) : Prop := ∃ r1, suR tk vl j cs r1 ∧ match r1 with
  | .inl f => r = .inl f
  | .inr q => if tk q.1 = 60 ∨ tk q.1 = 61 ∨ tk q.1 = 62 then (∃ r2, suR tk vl (q.1 + 1) q.2 r2 ∧ match r2 with
      | .inl f => r = .inl f
      | .inr u => r = .inr (u.1, u.2 ++ [(cmC (tk q.1), 0)])) else r = .inl (1, q.1)
theorem cmR_det {tk vl : Nat → Int} {j : Nat} {cs : CL} {r r2 : RS} (h1 : cmR tk vl j cs r) (h2 : cmR tk vl j cs r2) : r = r2 := by
  obtain ⟨a, ha, ha2⟩ := h1
  obtain ⟨b, hb, hb2⟩ := h2
  have := suR_det ha hb
  subst this
  cases a with
  | inl f => dsimp only at ha2 hb2; rw [ha2, hb2]
  | inr q =>
    dsimp only at ha2 hb2
    by_cases w : tk q.1 = 60 ∨ tk q.1 = 61 ∨ tk q.1 = 62
    · rw [if_pos w] at ha2 hb2
      obtain ⟨c, hc, hc2⟩ := ha2
      obtain ⟨d, hd, hd2⟩ := hb2
      have := suR_det hc hd
      subst this
      cases c with
      | inl f => dsimp only at hc2 hd2; rw [hc2, hd2]
      | inr u => dsimp only at hc2 hd2; rw [hc2, hd2]
    · rw [if_neg w] at ha2 hb2
      rw [ha2, hb2]
/-- what waits is settled -/
def stl (w : Int) : List Int → CL → List Int × CL
  | [], cs => ([], cs)
  | p :: P, cs => if p = w then stl w P (cs ++ [(w, 0)]) else (p :: P, cs)
def cnO : List Int → Nat
  | [] => 0
  | p :: P => cnO P + (if p = 9 ∨ p = 12 then 1 else 0)
def cnB : List Int → Nat
  | [] => 0
  | p :: P => cnB P + (if p = 12 then 1 else 0)
abbrev BS : Type := Bool × Nat × List Int × CL
def dCn (j : Nat) (P : List Int) (cs : CL) : BS := (false, j, (stl 9 P cs).1, (stl 9 P cs).2)
def sAO (P : List Int) (cs : CL) : List Int × CL := stl 11 (stl 10 P cs).1 (stl 10 P cs).2
def bst (tk vl : Nat → Int) (s : BS) (o : RS ⊕ BS) : Prop :=
  if s.1 = true then
    (if tk s.2.1 = 5 ∨ tk s.2.1 = 40 then (if cnO s.2.2.1 = 8 then o = .inl (.inl (3, s.2.1)) else o = .inr (true, s.2.1 + 1, (if tk s.2.1 = 5 then 9 else 12) :: s.2.2.1, s.2.2.2))
     else ∃ r, cmR tk vl s.2.1 s.2.2.2 r ∧ match r with
       | .inl f => o = .inl (.inl f)
       | .inr q => o = .inr (dCn q.1 s.2.2.1 q.2))
  else if tk s.2.1 = 4 then o = .inr (true, s.2.1 + 1, 10 :: (stl 10 s.2.2.1 s.2.2.2).1, (stl 10 s.2.2.1 s.2.2.2).2)
  else if tk s.2.1 = 3 then o = .inr (true, s.2.1 + 1, 11 :: (sAO s.2.2.1 s.2.2.2).1, (sAO s.2.2.1 s.2.2.2).2)
  else if cnB (sAO s.2.2.1 s.2.2.2).1 = 0 then o = .inl (.inr (s.2.1, (sAO s.2.2.1 s.2.2.2).2))
  else if tk s.2.1 = 41 then o = .inr (dCn (s.2.1 + 1) (sAO s.2.2.1 s.2.2.2).1.tail (sAO s.2.2.1 s.2.2.2).2)
  else o = .inl (.inl (1, s.2.1))
theorem bst_d {tk vl : Nat → Int} : ∀ (s : BS) (a b : RS ⊕ BS), bst tk vl s a → bst tk vl s b → a = b := by
  intro s a b h1 h2
  unfold bst at h1 h2
  by_cases w1 : s.1 = true
  · rw [if_pos w1] at h1 h2
    by_cases w2 : tk s.2.1 = 5 ∨ tk s.2.1 = 40
    · rw [if_pos w2] at h1 h2
      by_cases w3 : cnO s.2.2.1 = 8
      · rw [if_pos w3] at h1 h2; rw [h1, h2]
      · rw [if_neg w3] at h1 h2; rw [h1, h2]
    · rw [if_neg w2] at h1 h2
      obtain ⟨r, q1, q2⟩ := h1
      obtain ⟨r2, p1, p2⟩ := h2
      have := cmR_det q1 p1
      subst this
      cases r with
      | inl f => dsimp only at q2 p2; rw [q2, p2]
      | inr q => dsimp only at q2 p2; rw [q2, p2]
  · rw [if_neg w1] at h1 h2
    by_cases w2 : tk s.2.1 = 4
    · rw [if_pos w2] at h1 h2; rw [h1, h2]
    · rw [if_neg w2] at h1 h2
      by_cases w3 : tk s.2.1 = 3
      · rw [if_pos w3] at h1 h2; rw [h1, h2]
      · rw [if_neg w3] at h1 h2
        by_cases w4 : cnB (sAO s.2.2.1 s.2.2.2).1 = 0
        · rw [if_pos w4] at h1 h2; rw [h1, h2]
        · rw [if_neg w4] at h1 h2
          by_cases w5 : tk s.2.1 = 41
          · rw [if_pos w5] at h1 h2; rw [h1, h2]
          · rw [if_neg w5] at h1 h2; rw [h1, h2]
def bR (tk vl : Nat → Int) (s : BS) (r : RS) : Prop := rsl (bst tk vl) s r
theorem bR_det {tk vl : Nat → Int} {s : BS} {r r2 : RS} (h1 : bR tk vl s r) (h2 : bR tk vl s r2) : r = r2 := rsl_det bst_d h1 h2
theorem bR_done {tk vl : Nat → Int} {s : BS} {r0 : RS} (h : bst tk vl s (.inl r0)) : bR tk vl s r0 := (rsl_done bst_d h r0).mpr rfl
theorem bR_step {tk vl : Nat → Int} {s s2 : BS} (h : bst tk vl s (.inr s2)) (r : RS) : bR tk vl s r ↔ bR tk vl s2 r := rsl_step bst_d h r
/-- an and that waits is as one that is settled -/
theorem bR_and {tk vl : Nat → Int} {j : Nat} {P : List Int} {cs : CL} (r : RS) : bR tk vl (false, j, 10 :: P, cs) r ↔ bR tk vl (false, j, P, cs ++ [(10, 0)]) r := by
  refine rsl_same (fun o => ?_) r
  have e : stl 10 (10 :: P) cs = stl 10 P (cs ++ [(10, 0)]) := by show (if (10 : Int) = 10 then _ else _) = _; rw [if_pos rfl]
  have e2 : sAO (10 :: P) cs = sAO P (cs ++ [(10, 0)]) := by unfold sAO; rw [e]
  unfold bst
  dsimp only
  rw [if_neg (show ¬ (false = true) by decide), if_neg (show ¬ (false = true) by decide), e, e2]
/-- an or that waits is as one that is settled, where no and goes on -/
theorem bR_or {tk vl : Nat → Int} {j : Nat} {P : List Int} {cs : CL} (h4 : tk j ≠ 4) (hP : ∀ p Q, P = p :: Q → p ≠ 10) (r : RS) : bR tk vl (false, j, 11 :: P, cs) r ↔ bR tk vl (false, j, P, cs ++ [(11, 0)]) r := by
  refine rsl_same (fun o => ?_) r
  have e : stl 10 (11 :: P) cs = (11 :: P, cs) := by show (if (11 : Int) = 10 then _ else _) = _; rw [if_neg (by decide)]
  have e1 : stl 10 P (cs ++ [(11, 0)]) = (P, cs ++ [(11, 0)]) := by
    cases P with
    | nil => rfl
    | cons p Q => show (if p = 10 then _ else _) = _; rw [if_neg (hP p Q rfl)]
  have e2 : sAO (11 :: P) cs = sAO P (cs ++ [(11, 0)]) := by
    unfold sAO
    rw [e, e1]
    show stl 11 (11 :: P) cs = stl 11 P (cs ++ [(11, 0)])
    show (if (11 : Int) = 11 then _ else _) = _
    rw [if_pos rfl]
  unfold bst
  dsimp only
  rw [if_neg (show ¬ (false = true) by decide), if_neg (show ¬ (false = true) by decide), if_neg h4, if_neg h4, e2]
theorem dCn_not {j : Nat} {P : List Int} {cs : CL} : dCn j (9 :: P) cs = dCn j P (cs ++ [(9, 0)]) := by
  have e : stl 9 (9 :: P) cs = stl 9 P (cs ++ [(9, 0)]) := by show (if (9 : Int) = 9 then _ else _) = _; rw [if_pos rfl]
  unfold dCn
  rw [e]
theorem dCn_no {j : Nat} {P : List Int} {cs : CL} (hP : ∀ p Q, P = p :: Q → p ≠ 9) : dCn j P cs = (false, j, P, cs) := by
  cases P with
  | nil => rfl
  | cons p Q =>
    have e : stl 9 (p :: Q) cs = (p :: Q, cs) := by show (if p = 9 then _ else _) = _; rw [if_neg (hP p Q rfl)]
    unfold dCn
    rw [e]

/-! THE LAW: codes, their types, their values -/
def wI (x : Int) : Int := (Int32.ofInt x).toInt
theorem wI_rng (x : Int) : -2147483648 ≤ wI x ∧ wI x ≤ 2147483647 := by
  have h1 := Int32.minValue_le_toInt (Int32.ofInt x)
  have h2 := Int32.toInt_le (Int32.ofInt x)
  exact ⟨h1, h2⟩
theorem wI_of (x : Int) : Int32.ofInt x = Int32.ofInt (wI x) := by
  show _ = Int32.ofInt (Int32.ofInt x).toInt
  rw [Int32.ofInt_toInt]
theorem wI_id {x : Int} (h1 : -2147483648 ≤ x) (h2 : x ≤ 2147483647) : wI x = x := ot_bm h1 h2
theorem od_rng (x y : Int) : -2147483648 ≤ ot_div x y ∧ ot_div x y ≤ 2147483647 := by
  have h1 := Int32.minValue_le_toInt (Int32.ofInt x / Int32.ofInt y)
  have h2 := Int32.toInt_le (Int32.ofInt x / Int32.ofInt y)
  exact ⟨h1, h2⟩
section OT
variable {p : Program} {l : Launch} {e : Env} {R : Room} {s : State} {m : MethodId} {args : Array Value} {below : List Frame} {meth : Method} {c : Code} {g : ot_G} {nL cells slots : Nat} {Q : State → Prop} {L : ot_L} {μ : ot_M} {pc : Nat} {lv : List (Nat × ot_V)} {st : List ot_V}
theorem tt_wrap {x y : Int} (h : Int32.ofInt x = Int32.ofInt y) (k : ot_T p l e R s m args below meth c g nL cells slots Q L μ pc lv (.inl y :: st)) : ot_T p l e R s m args below meth c g nL cells slots Q L μ pc lv (.inl x :: st) := by
  intro H locs ls hP hS hl
  have h2 := k H locs ls hP hS hl
  have e1 : ot_v g.1.size (.inl x) = ot_v g.1.size (.inl y) := by show Value.int _ = Value.int _; rw [h]
  rw [List.map_cons, e1]
  exact h2
end OT
/-- a dyadic operator -/
def tw (o x y : Int) : Int :=
  if o = 2 then wI (x + y) else if o = 3 then wI (x - y) else if o = 4 then wI (x * y) else if o = 5 then ot_div x y else if o = 6 then (if x < y then 1 else 0) else if o = 7 then (if x = y then 1 else 0) else if o = 8 then (if y < x then 1 else 0) else if o = 10 then (if x = 1 ∧ y = 1 then 1 else 0) else (if x = 1 ∨ y = 1 then 1 else 0)
theorem tw_rng (o x y : Int) : -2147483648 ≤ tw o x y ∧ tw o x y ≤ 2147483647 := by
  unfold tw
  have h1 := wI_rng (x + y)
  have h2 := wI_rng (x - y)
  have h3 := wI_rng (x * y)
  have h4 := od_rng x y
  repeat' split
  all_goals omega
theorem tw_bool {o x y : Int} (h : o = 6 ∨ o = 7 ∨ o = 8 ∨ o = 10 ∨ o = 11) : tw o x y = 0 ∨ tw o x y = 1 := by
  unfold tw
  rcases h with rfl | rfl | rfl | rfl | rfl <;> simp <;> omega
/-- one code: the stack, its top first -/
def ev1 (o v : Int) (fct : Int → Int) (st : List Int) : List Int :=
  if o = 0 then v :: st else if o = 1 then fct v :: st else match st with
    | [] => []
    | x :: t => if o = 9 then wI (1 - x) :: t else match t with
      | [] => []
      | y :: u => tw o y x :: u
/-- its types: 0 a number, 1 true or false, 2 a number of the text that is not 0 -/
def ty1 (o v : Int) (st : List Int) : Option (List Int) :=
  if o = 0 then (if 0 ≤ v ∧ v ≤ 9999 ∧ st.length ≤ 30 then some ((if v = 0 then 0 else 2) :: st) else none)
  else if o = 1 then (if 0 ≤ v ∧ v < 8 ∧ st.length ≤ 30 then some (0 :: st) else none)
  else match st with
    | [] => none
    | x :: t => if o = 9 then (if x = 1 then some (1 :: t) else none) else match t with
      | [] => none
      | y :: u => if o = 2 ∨ o = 3 ∨ o = 4 then (if x ≠ 1 ∧ y ≠ 1 then some (0 :: u) else none)
        else if o = 5 then (if x = 2 ∧ y ≠ 1 then some (0 :: u) else none)
        else if o = 6 ∨ o = 7 ∨ o = 8 then (if x ≠ 1 ∧ y ≠ 1 then some (1 :: u) else none)
        else if o = 10 ∨ o = 11 then (if x = 1 ∧ y = 1 then some (1 :: u) else none) else none
def evl (op arg fct : Int → Int) (a : Int) : Nat → List Int
  | 0 => []
  | n + 1 => ev1 (op (a + n)) (arg (a + n)) fct (evl op arg fct a n)
def typ (op arg : Int → Int) (a : Int) : Nat → Option (List Int)
  | 0 => some []
  | n + 1 => (typ op arg a n).bind (ty1 (op (a + n)) (arg (a + n)))
def vOk (v t : Int) : Prop := (-2147483648 ≤ v ∧ v ≤ 2147483647) ∧ (t = 1 → v = 0 ∨ v = 1) ∧ (t = 2 → 1 ≤ v ∧ v ≤ 9999)
def vAll : List Int → List Int → Prop
  | [], [] => True
  | v :: a, t :: b => vOk v t ∧ vAll a b
  | _, _ => False
theorem vAll_len : ∀ {a b : List Int}, vAll a b → a.length = b.length
  | [], [], _ => rfl
  | v :: a, t :: b, h => by show a.length + 1 = b.length + 1; rw [vAll_len h.2]
  | [], t :: b, h => h.elim
  | v :: a, [], h => h.elim
/-- the shapes that a code which is well typed can have -/
def tyC (o v : Int) (st su : List Int) : Prop :=
  (o = 0 ∧ (0 ≤ v ∧ v ≤ 9999) ∧ st.length ≤ 30 ∧ su = (if v = 0 then 0 else 2) :: st) ∨ (o = 1 ∧ (0 ≤ v ∧ v < 8) ∧ st.length ≤ 30 ∧ su = 0 :: st) ∨ (o = 9 ∧ ∃ t, st = 1 :: t ∧ su = 1 :: t) ∨
  ∃ x y u, st = x :: y :: u ∧ (((o = 2 ∨ o = 3 ∨ o = 4) ∧ x ≠ 1 ∧ y ≠ 1 ∧ su = 0 :: u) ∨ (o = 5 ∧ x = 2 ∧ y ≠ 1 ∧ su = 0 :: u) ∨ ((o = 6 ∨ o = 7 ∨ o = 8) ∧ x ≠ 1 ∧ y ≠ 1 ∧ su = 1 :: u) ∨ ((o = 10 ∨ o = 11) ∧ x = 1 ∧ y = 1 ∧ su = 1 :: u))
theorem tyC_of {o v : Int} {st su : List Int} (h : ty1 o v st = some su) : tyC o v st su := by
  unfold ty1 at h
  split at h
  · rename_i ho
    split at h
    · rename_i hv
      cases h
      exact Or.inl ⟨ho, ⟨hv.1, hv.2.1⟩, hv.2.2, rfl⟩
    · cases h
  · split at h
    · rename_i ho
      split at h
      · rename_i hv
        cases h
        exact Or.inr (Or.inl ⟨ho, ⟨hv.1, hv.2.1⟩, hv.2.2, rfl⟩)
      · cases h
    · split at h
      · cases h
      · rename_i x t
        split at h
        · rename_i ho
          split at h
          · rename_i hx
            cases h
            subst hx
            exact Or.inr (Or.inr (Or.inl ⟨ho, t, rfl, rfl⟩))
          · cases h
        · split at h
          · cases h
          · rename_i y u
            refine Or.inr (Or.inr (Or.inr ⟨x, y, u, rfl, ?_⟩))
            split at h
            · rename_i ho
              split at h
              · rename_i hx
                cases h
                exact Or.inl ⟨ho, hx.1, hx.2, rfl⟩
              · cases h
            · split at h
              · rename_i ho
                split at h
                · rename_i hx
                  cases h
                  exact Or.inr (Or.inl ⟨ho, hx.1, hx.2, rfl⟩)
                · cases h
              · split at h
                · rename_i ho
                  split at h
                  · rename_i hx
                    cases h
                    exact Or.inr (Or.inr (Or.inl ⟨ho, hx.1, hx.2, rfl⟩))
                  · cases h
                · split at h
                  · rename_i ho
                    split at h
                    · rename_i hx
                      cases h
                      exact Or.inr (Or.inr (Or.inr ⟨ho, hx.1, hx.2, rfl⟩))
                    · cases h
                  · cases h
theorem wI_not {v : Int} (h : v = 0 ∨ v = 1) : wI (1 - v) = 0 ∨ wI (1 - v) = 1 := by
  rw [wI_id (by omega) (by omega)]; omega
theorem ev1_two {o v a b : Int} {fct : Int → Int} {vt : List Int} (h : o ≠ 0 ∧ o ≠ 1 ∧ o ≠ 9) : ev1 o v fct (a :: b :: vt) = tw o b a :: vt := by
  unfold ev1
  rw [if_neg h.1, if_neg h.2.1]
  show (if o = 9 then _ else _) = _
  rw [if_neg h.2.2]
theorem vAll_ev {o v : Int} {fct : Int → Int} {st su vs : List Int} (hf : ∀ i, 0 ≤ i → i < 8 → -2147483648 ≤ fct i ∧ fct i ≤ 2147483647) (hv : vAll vs st) (h : tyC o v st su) : vAll (ev1 o v fct vs) su := by
  rcases h with ⟨ho, hn, hl, rfl⟩ | ⟨ho, hn, hl, rfl⟩ | ⟨ho, t, rfl, rfl⟩ | ⟨x, y, u, rfl, h⟩
  · subst ho
    show vAll (v :: vs) _
    refine ⟨⟨by omega, fun q => ?_, fun q => ?_⟩, hv⟩
    · exfalso; revert q; split <;> decide
    · revert q
      split
      · intro q; omega
      · intro _; omega
  · subst ho
    show vAll (fct v :: vs) _
    exact ⟨⟨hf v hn.1 hn.2, fun q => by omega, fun q => by omega⟩, hv⟩
  · subst ho
    match vs, hv with
    | x :: vt, hv =>
      show vAll (wI (1 - x) :: vt) (1 :: t)
      have := wI_not (hv.1.2.1 rfl)
      exact ⟨⟨by omega, fun _ => this, fun q => by omega⟩, hv.2⟩
  · match vs, hv with
    | a :: b :: vt, hv =>
      rw [ev1_two (by omega)]
      rcases h with ⟨ho, hx, hy, rfl⟩ | ⟨ho, hx, hy, rfl⟩ | ⟨ho, hx, hy, rfl⟩ | ⟨ho, hx, hy, rfl⟩
      · exact ⟨⟨tw_rng o b a, fun q => by omega, fun q => by omega⟩, hv.2.2⟩
      · exact ⟨⟨tw_rng o b a, fun q => by omega, fun q => by omega⟩, hv.2.2⟩
      · exact ⟨⟨tw_rng o b a, fun _ => tw_bool (by omega), fun q => by omega⟩, hv.2.2⟩
      · exact ⟨⟨tw_rng o b a, fun _ => tw_bool (by omega), fun q => by omega⟩, hv.2.2⟩
/-- a prefix of typed codes is typed -/
theorem typ_pre {op arg : Int → Int} {a : Int} {n : Nat} : ∀ {k : Nat} {τ : List Int}, typ op arg a (n + k) = some τ → ∃ σ, typ op arg a n = some σ
  | 0, τ, h => ⟨τ, h⟩
  | k + 1, τ, h => by
    have h2 : (typ op arg a (n + k)).bind (ty1 (op (a + (n + k : Nat))) (arg (a + (n + k : Nat)))) = some τ := h
    cases e : typ op arg a (n + k) with
    | none => rw [e] at h2; cases h2
    | some σ => exact typ_pre e
theorem typ_step {op arg : Int → Int} {a : Int} {n : Nat} {τ : List Int} (h : typ op arg a (n + 1) = some τ) : ∃ σ, typ op arg a n = some σ ∧ tyC (op (a + n)) (arg (a + n)) σ τ := by
  have h2 : (typ op arg a n).bind (ty1 (op (a + n)) (arg (a + n))) = some τ := h
  cases e : typ op arg a n with
  | none => rw [e] at h2; cases h2
  | some σ => rw [e] at h2; exact ⟨σ, rfl, tyC_of h2⟩
theorem typ_len {op arg : Int → Int} {a : Int} : ∀ {n : Nat} {τ : List Int}, typ op arg a n = some τ → τ.length ≤ 31
  | 0, τ, h => by cases h; decide
  | n + 1, τ, h => by
    obtain ⟨σ, h1, h2⟩ := typ_step h
    have h3 := typ_len h1
    rcases h2 with ⟨_, _, hl, rfl⟩ | ⟨_, _, hl, rfl⟩ | ⟨_, t, rfl, rfl⟩ | ⟨x, y, u, rfl, h2⟩
    · simp; omega
    · simp; omega
    · simpa using h3
    · simp at h3
      rcases h2 with ⟨_, _, _, rfl⟩ | ⟨_, _, _, rfl⟩ | ⟨_, _, _, rfl⟩ | ⟨_, _, _, rfl⟩ <;> simp <;> omega
theorem vAll_evl {op arg fct : Int → Int} {a : Int} (hf : ∀ i, 0 ≤ i → i < 8 → -2147483648 ≤ fct i ∧ fct i ≤ 2147483647) : ∀ {n : Nat} {τ : List Int}, typ op arg a n = some τ → vAll (evl op arg fct a n) τ
  | 0, τ, h => by cases h; trivial
  | n + 1, τ, h => by
    obtain ⟨σ, h1, h2⟩ := typ_step h
    exact vAll_ev hf (vAll_evl hf h1) h2
/-- a row of cells holds a stack, its top first -/
def stk (f : Int → Int) : List Int → Prop
  | [] => True
  | x :: t => f (t.length : Int) = x ∧ stk f t
theorem stk_push {f : Int → Int} {v i : Int} : ∀ {st : List Int}, (st.length : Int) ≤ i → stk f st → stk (fun j => if j = i then v else f j) st
  | [], _, _ => trivial
  | x :: t, hl, h => by
    have h1 : (t.length : Int) + 1 ≤ i := hl
    refine ⟨?_, stk_push (by omega) h.2⟩
    show (if (t.length : Int) = i then v else f _) = x
    rw [if_neg (by omega)]
    exact h.1
/-- how the class writes a code -/
def enc (o v : Int) : Int := if o = 0 then v else if o = 1 then 10000 + v else if o = 2 then -43 else if o = 3 then -45 else if o = 4 then -42 else if o = 5 then -47 else if o = 6 then -60 else if o = 7 then -61 else if o = 8 then -62 else if o = 9 then -5 else if o = 10 then -4 else -3
/-- whether a line holds -/
def hold (op arg fct : Int → Int) (a b : Int) : Bool := decide (a = b ∨ (evl op arg fct a (b - a).toNat).headD 0 ≠ 0)
def sOk (op arg : Int → Int) (a b : Int) : Prop := (0 ≤ a ∧ a ≤ b ∧ b ≤ 400) ∧ (a = b ∨ typ op arg a (b - a).toNat = some [1])
/-- the law's verdict from line i on -/
def lawS (op arg fct lw lf lt : Int → Int) (m : Nat) : Nat → Int
  | 0 => 1
  | k + 1 => if hold op arg fct (lf ((m : Int) - (k + 1))) (lt ((m : Int) - (k + 1))) then (if lw ((m : Int) - (k + 1)) = 0 then 1 else 0) else lawS op arg fct lw lf lt m k
/-- the law of the class (code, ends, verdicts, lines) is that of the reference -/
def gLaw (cd en vd : Int → Int) (m : Int) (op arg lw lf lt : Int → Int) : Prop := (0 ≤ m ∧ m ≤ 16) ∧ ∀ l, 0 ≤ l → l < m → (lf l = if l = 0 then 0 else lt (l - 1)) ∧ sOk op arg (lf l) (lt l) ∧ en l = lt l ∧ (vd l = if lw l = 0 then 1 else 0) ∧ (lw l = 0 ∨ lw l = 1) ∧ ∀ i, lf l ≤ i → i < lt l → cd i = enc (op i) (arg i)

/-! THE LEDGER: a world of cells as one memory of whole numbers. A cell is a number k, its address base + k. Kinds: (0, n, _) int[n], (1, n, _) boolean[n], (c + 2, _, rs) an object of class c, whose reference fields are rs. -/
abbrev ot_V : Type := Int ⊕ Nat
abbrev ot_M : Type := Nat → Int → Int
abbrev ot_D : Type := Nat × Nat × List (Option Nat)
abbrev ot_L : Type := List ot_D
abbrev ot_G : Type := Heap × va_G × ClassId × ClassId × (State → Heap → Prop)
abbrev ot_cl : List vw_C := [(RX0, TX0, 3), (RX1, TX1, 5), (RX2, TX2, 8), (RX3, TX3, 5), (RX4, TX4, 10), (RX5, TX5, 7), (RX6, TX6, 4), (RX7, TX7, 6), (RX8, TX8, 14), (RX9, TX9, 15), (RX10, TX10, 49)]
def ot_nf (c : Nat) : Nat := match c with
  | 0 => 3 | 1 => 5 | 2 => 8 | 3 => 5 | 4 => 10 | 5 => 7 | 6 => 4 | 7 => 6 | 8 => 14 | 9 => 15 | _ => 49
def ot_tf (c j : Nat) : FieldType := match c with
  | 0 => tyX0 j | 1 => tyX1 j | 2 => tyX2 j | 3 => tyX3 j | 4 => tyX4 j | 5 => tyX5 j | 6 => tyX6 j | 7 => tyX7 j | 8 => tyX8 j | 9 => tyX9 j | _ => tyX10 j
def ot_i (z : Int) : Value := .int (Int32.ofInt z)
def ot_r (b : Nat) (z : Option Nat) : Value := match z with
  | none => .null
  | some k => .ref (b + k)
def ot_v (b : Nat) (v : ot_V) : Value := match v with
  | .inl z => ot_i z
  | .inr k => .ref (b + k)
def ot_f (b : Nat) (ty : FieldType) (z : Int) (r : Option Nat) : Value := match ty with
  | .int => ot_i z
  | .boolean => ot_i z
  | _ => ot_r b r
def ot_fs (b : Nat) (f : Int → Int) (c : Nat) (rs : List (Option Nat)) : List Value := (List.range (ot_nf c)).map (fun j => ot_f b (ot_tf c j) (f (j : Int)) (rs.getD j none))
def ot_c (g : ot_G) (f : Int → Int) (kd : ot_D) : va_E := match kd.1 with
  | 0 => .inl (g.2.2.1, kd.2.1, .inl (fun j => Int32.ofInt (f (j : Int))))
  | 1 => .inl (g.2.2.2.1, kd.2.1, .inl (fun j => Int32.ofInt (f (j : Int))))
  | c + 2 => .inr (c, ot_fs g.1.size f c kd.2.2)
def ot_w (g : ot_G) (L : ot_L) (μ : ot_M) : va_W := L.mapIdx (fun k kd => (g.1.size + k, ot_c g (μ k) kd))
def ot_A (g : ot_G) : Nat → Prop := fun q => g.1.size ≤ q
abbrev ot_tys (g : ot_G) : List (ClassId × FieldType) := [(g.2.2.1, .int), (g.2.2.2.1, .boolean)]
/-- the heap holds the memory -/
def ot_P (g : ot_G) (L : ot_L) (μ : ot_M) (H : Heap) : Prop := va_P g.2.1 ot_cl (ot_w g L μ) H ∧ H.size = g.1.size + L.length ∧ ∀ q, q < g.1.size → H[q]? = g.1[q]?
/-- what holds of a state's tables -/
def ot_U (g : ot_G) (U : State) : Prop := va_K g.2.1 ot_cl (ot_tys g) U ∧ g.2.2.2.2 U g.1
/-- the premises on strings and statics are stable -/
def ot_J (g : ot_G) : Prop := (∀ (s U : State) (H : Heap), s.WarmedH U.vm → g.2.2.2.2 s H → g.2.2.2.2 U H) ∧ (∀ (s U : State) (H : Heap), U.vm = s.vm → g.2.2.2.2 s H → g.2.2.2.2 U H) ∧ ∀ (U : State) (H H1 : Heap), (∀ q, q < g.1.size → H1[q]? = H[q]?) → g.2.2.2.2 U H → g.2.2.2.2 U H1
theorem ot_w_get (g : ot_G) (L : ot_L) (μ : ot_M) (k : Nat) : (ot_w g L μ)[k]? = (L[k]?).map (fun kd => (g.1.size + k, ot_c g (μ k) kd)) := by
  unfold ot_w
  rw [List.getElem?_mapIdx]
theorem ot_w_at {g : ot_G} {L : ot_L} {μ : ot_M} {k : Nat} {kd : ot_D} (h : L[k]? = some kd) : (ot_w g L μ)[k]? = some (g.1.size + k, ot_c g (μ k) kd) := by
  rw [ot_w_get, h]; rfl
theorem ot_w_len (g : ot_G) (L : ot_L) (μ : ot_M) : (ot_w g L μ).length = L.length := by
  unfold ot_w
  rw [List.length_mapIdx]
theorem ot_w_D (g : ot_G) (L : ot_L) (μ : ot_M) : va_D (ot_A g) (ot_w g L μ) := by
  refine ⟨fun i j p q hi hj hpq => ?_, fun k q hk => ?_⟩
  · rw [ot_w_get] at hi hj
    cases h1 : L[i]? with
    | none => rw [h1] at hi; cases hi
    | some a =>
      cases h2 : L[j]? with
      | none => rw [h2] at hj; cases hj
      | some b =>
        rw [h1] at hi; rw [h2] at hj
        cases hi; cases hj
        simp only at hpq
        omega
  · rw [ot_w_get] at hk
    cases h1 : L[k]? with
    | none => rw [h1] at hk; cases hk
    | some a =>
      rw [h1] at hk
      cases hk
      exact Nat.le_add_right _ _
/-- memory with one place changed -/
def ot_up (μ : ot_M) (k : Nat) (i v : Int) : ot_M := fun k' j => if k' = k then (if j = i then v else μ k j) else μ k' j
def ot_uc (μ : ot_M) (k : Nat) (f : Int → Int) : ot_M := fun k' => if k' = k then f else μ k'
theorem ot_w_set {g : ot_G} {L L' : ot_L} {μ μ' : ot_M} {k : Nat} {kd : ot_D} {e : va_E} (hk : k < L.length) (hL : L' = L.set k kd) (h1 : ot_c g (μ' k) kd = e) (h2 : ∀ j, j ≠ k → μ' j = μ j) : (ot_w g L μ).set k (g.1.size + k, e) = ot_w g L' μ' := by
  subst hL
  apply List.ext_getElem?
  intro j
  by_cases hj : j = k
  · subst hj
    rw [List.getElem?_set_self (by rw [ot_w_len]; exact hk), ot_w_at (List.getElem?_set_self hk), h1]
  · rw [List.getElem?_set_ne (Ne.symm hj), ot_w_get, ot_w_get, h2 j hj, List.getElem?_set_ne (Ne.symm hj)]
theorem ot_w_push {g : ot_G} {L : ot_L} {μ μ' : ot_M} {kd : ot_D} {e : va_E} (h1 : ot_c g (μ' L.length) kd = e) (h2 : ∀ j, j < L.length → μ' j = μ j) : ot_w g L μ ++ [(g.1.size + L.length, e)] = ot_w g (L ++ [kd]) μ' := by
  apply List.ext_getElem?
  intro j
  rw [ot_w_get]
  rcases Nat.lt_trichotomy j L.length with hj | hj | hj
  · rw [List.getElem?_append_left (by rw [ot_w_len]; exact hj), List.getElem?_append_left hj, ot_w_get, h2 j hj]
  · subst hj
    rw [List.getElem?_append_right (by rw [ot_w_len]; exact Nat.le_refl _), List.getElem?_append_right (Nat.le_refl _), ot_w_len, Nat.sub_self]
    simp [h1]
  · rw [List.getElem?_append_right (by rw [ot_w_len]; omega), List.getElem?_append_right (by omega), ot_w_len]
    have : j - L.length ≠ 0 := by omega
    cases hq : j - L.length with
    | zero => exact absurd hq this
    | succ n => simp
theorem ot_set_self {L : ot_L} {k : Nat} {kd : ot_D} (h : L[k]? = some kd) : L = L.set k kd := by
  obtain ⟨hl, he⟩ := List.getElem?_eq_some_iff.mp h
  rw [← he, List.set_getElem_self hl]
-- numbers
theorem ot_bm {z : Int} (h1 : -2147483648 ≤ z) (h2 : z ≤ 2147483647) : (Int32.ofInt z).toInt = z := by
  exact Int32.toInt_ofInt_of_le (by omega) (by omega)
theorem ot_lt {a b : Int} (h : -2147483648 ≤ a ∧ a ≤ 2147483647 ∧ -2147483648 ≤ b ∧ b ≤ 2147483647) : Int32.ofInt a < Int32.ofInt b ↔ a < b := by
  rw [Int32.lt_iff_toInt_lt, ot_bm h.1 h.2.1, ot_bm h.2.2.1 h.2.2.2]
theorem ot_le {a b : Int} (h : -2147483648 ≤ a ∧ a ≤ 2147483647 ∧ -2147483648 ≤ b ∧ b ≤ 2147483647) : Int32.ofInt a ≤ Int32.ofInt b ↔ a ≤ b := by
  rw [Int32.le_iff_toInt_le, ot_bm h.1 h.2.1, ot_bm h.2.2.1 h.2.2.2]
theorem ot_eq {a b : Int} (h : -2147483648 ≤ a ∧ a ≤ 2147483647 ∧ -2147483648 ≤ b ∧ b ≤ 2147483647) : Int32.ofInt a = Int32.ofInt b ↔ a = b := by
  refine ⟨fun q => ?_, fun q => by rw [q]⟩
  have := congrArg Int32.toInt q
  rwa [ot_bm h.1 h.2.1, ot_bm h.2.2.1 h.2.2.2] at this
theorem ot_0 : (0 : Int32) = Int32.ofInt 0 := rfl
theorem ot_cl_of {z : Int} (h1 : 0 ≤ z) (h2 : z ≤ 2147483647) : (Int32.ofInt z).toNatClampNeg = z.toNat := by
  show (Int32.ofInt z).toInt.toNat = z.toNat
  rw [ot_bm (by omega) h2]
theorem ot_in {z : Int} {n : Nat} (h : 0 ≤ z ∧ z < n ∧ z ≤ 2147483647) : vp_in (Int32.ofInt z) n := by
  intro q
  rcases q with q | q
  · rw [ot_0, ot_lt ⟨by omega, h.2.2, by omega, by omega⟩] at q
    omega
  · rw [ot_cl_of h.1 h.2.2] at q
    omega
-- locals
def ot_lg (lv : List (Nat × ot_V)) (k : Nat) : Option ot_V := match lv with
  | [] => none
  | q :: t => if q.1 = k then some q.2 else ot_lg t k
def ot_H (b nL : Nat) (lv : List (Nat × ot_V)) (ls : Array Slot) : Prop := ls.size = nL ∧ lv_wf ls ∧ ∀ k v, ot_lg lv k = some v → ls[k]? = some (.val (ot_v b v))
def ot_ll (b nL : Nat) (lv : List (Nat × ot_V)) : List (Nat × Value) := (List.range nL).filterMap (fun k => (ot_lg lv k).map (fun v => (k, ot_v b v)))
theorem ot_H.has {b nL : Nat} {lv : List (Nat × ot_V)} {ls : Array Slot} (h : ot_H b nL lv ls) : lv_has ls nL (ot_ll b nL lv) := by
  refine ⟨h.1, h.2.1, fun q hq => ?_⟩
  obtain ⟨k, -, hk⟩ := List.mem_filterMap.mp hq
  cases e : ot_lg lv k with
  | none => rw [e] at hk; cases hk
  | some v =>
    rw [e] at hk
    cases hk
    exact h.2.2 k v e
theorem ot_cat (b : Nat) (v : ot_V) : (ot_v b v).category = 1 := by
  cases v <;> rfl
theorem ot_H.put {b nL i : Nat} {lv : List (Nat × ot_V)} {ls ls' : Array Slot} {x : ot_V} (h : ot_H b nL lv ls) (h' : lv_has ls' nL ((i, ot_v b x) :: (ot_ll b nL lv).filter (fun q => !(q.1 == i) && !(q.1 + 1 == i && q.2.category == 2)))) : ot_H b nL ((i, x) :: lv) ls' := by
  refine ⟨h'.1, h'.2.1, fun k v e => ?_⟩
  unfold ot_lg at e
  split at e
  · rename_i hk
    cases e
    have := h'.2.2 (i, ot_v b x) List.mem_cons_self
    simp only at hk
    rw [← hk]
    exact this
  · rename_i hk
    simp only at hk
    have hlt : k < nL := by
      have h1 := h.2.2 k v e
      rw [← h.1]
      exact (Array.getElem?_eq_some_iff.mp h1).1
    refine h'.2.2 (k, ot_v b v) (List.mem_cons_of_mem _ (List.mem_filter.mpr ⟨List.mem_filterMap.mpr ⟨k, List.mem_range.mpr hlt, by rw [e]; rfl⟩, ?_⟩))
    simp [ot_cat, Ne.symm hk]
def ot_sub (a : List (Nat × ot_V)) (lv : List (Nat × ot_V)) : Prop := match a with
  | [] => True
  | q :: t => ot_lg lv q.1 = some q.2 ∧ ot_sub t lv
theorem ot_sub_get : ∀ {a lv : List (Nat × ot_V)}, ot_sub a lv → ∀ k v, ot_lg a k = some v → ot_lg lv k = some v
  | [], _, _, _, _, e => by cases e
  | q :: t, lv, h, k, v, e => by
    unfold ot_lg at e
    split at e
    · rename_i hk
      cases e
      rw [← hk]; exact h.1
    · exact ot_sub_get h.2 k v e
theorem ot_H.sub {b nL : Nat} {a lv : List (Nat × ot_V)} {ls : Array Slot} (h : ot_H b nL lv ls) (hs : ot_sub a lv) : ot_H b nL a ls := ⟨h.1, h.2.1, fun k v e => h.2.2 k v (ot_sub_get hs k v e)⟩
-- words: those of the tables that are good in any warmer state
def ot_ws : List Cond := lw_tbl.filter goodWord
theorem ot_ws_tbl {w : Cond} (h : w ∈ ot_ws) : w ∈ lw_tbl := (List.mem_filter.mp h).1
theorem ot_mem {w : Cond} (i : Nat) (h : tables_1[i]? = some w) (hg : goodWord w = true) : w ∈ ot_ws := List.mem_filter.mpr ⟨List.mem_append_right _ (List.mem_of_getElem? h), hg⟩
theorem ot_mes {w : Cond} (i : Nat) (h : (k2_sels lw_privs)[i]? = some w) (hg : goodWord w = true) : w ∈ ot_ws := List.mem_filter.mpr ⟨List.mem_append_left _ (List.mem_of_getElem? h), hg⟩
theorem ot_good {ws : List Cond} (h : ∀ w ∈ ws, w ∈ ot_ws) : GoodIn ot_ws ws := fun w hw => ⟨h w hw, good_of_word (List.mem_filter.mp (h w hw)).2⟩
/-- a field by its place in a class's pool: class c, field j -/
def ot_FI (own : String) (idx c j : Nat) (ji : Int) : Prop := ∃ q : vw_C, ot_cl[c]? = some q ∧ j < q.2.2 ∧ (∀ w ∈ u_ws q.1 q.2.1 q.2.2, w ∈ ot_ws) ∧ Cond.fieldLink own idx (q.2.1 j).1 (q.2.1 j).2.1 (q.2.1 j).2.2.1 ∈ ot_ws ∧ (j : Int) = ji
/-- what a class's table says, for stores -/
def ot_CI (c : Nat) : Prop := ∃ q : vw_C, ot_cl[c]? = some q ∧ q.2.2 = ot_nf c ∧ (∀ k, k < q.2.2 → parseFieldDescriptor (q.2.1 k).2.2.1 = some (ot_tf c k)) ∧ (∀ a, a < q.2.2 → ∀ b, b < q.2.2 → a ≠ b → (q.2.1 a).2.1 ≠ (q.2.1 b).2.1)
theorem ot_fs_get {b : Nat} {f : Int → Int} {c j : Nat} {rs : List (Option Nat)} (h : j < ot_nf c) : (ot_fs b f c rs)[j]? = some (ot_f b (ot_tf c j) (f (j : Int)) (rs.getD j none)) := by
  unfold ot_fs
  rw [List.getElem?_map, List.getElem?_range h]; rfl
theorem ot_fs_len {b : Nat} {f : Int → Int} {c : Nat} {rs : List (Option Nat)} : (ot_fs b f c rs).length = ot_nf c := by
  unfold ot_fs
  rw [List.length_map, List.length_range]
theorem ot_fs_set {b : Nat} {f f' : Int → Int} {c j : Nat} {rs rs' : List (Option Nat)} {v : Value} (hj : j < ot_nf c) (h1 : ot_f b (ot_tf c j) (f' (j : Int)) (rs'.getD j none) = v) (h2 : ∀ i : Nat, i ≠ j → f' (i : Int) = f (i : Int) ∧ rs'.getD i none = rs.getD i none) : (ot_fs b f c rs).set j v = ot_fs b f' c rs' := by
  apply List.ext_getElem?
  intro i
  by_cases hi : i = j
  · subst hi
    rw [List.getElem?_set_self (by rw [ot_fs_len]; exact hj), ot_fs_get hj, h1]
  · rw [List.getElem?_set_ne (Ne.symm hi)]
    by_cases hl : i < ot_nf c
    · rw [ot_fs_get hl, ot_fs_get hl, (h2 i hi).1, (h2 i hi).2]
    · rw [List.getElem?_eq_none (by rw [ot_fs_len]; omega), List.getElem?_eq_none (by rw [ot_fs_len]; omega)]

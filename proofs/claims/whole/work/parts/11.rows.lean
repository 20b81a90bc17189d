/-! THE JUDGEMENT ot_T: at pc, with locals lv and operand stack st and memory μ over layout L, the machine comes to Q. -/
/-- what holds in a method's body -/
def ot_X (p : Program) (s : State) (m : MethodId) (args : Array Value) (c : Code) (g : ot_G) (cc : ByteArray) (nL : Nat) (own : String) : Prop :=
  p.tables.exec = Jvm.exec ∧ c.code = cc ∧ c.maxLocals = nL ∧ s.vm.findClass own = some m.cls ∧ (∀ w ∈ ot_ws, w.before args s = true) ∧ ot_U g s ∧ g.1.size ≤ s.heap.size ∧ ot_J g
section OT
variable {p : Program} {l : Launch} {e : Env} {R : Room} {s : State} {m : MethodId} {args : Array Value} {below : List Frame} {meth : Method} {c : Code} {g : ot_G} {nL cells slots : Nat} {Q : State → Prop} {cc : ByteArray} {own : String}
variable {L : ot_L} {μ : ot_M} {pc : Nat} {lv : List (Nat × ot_V)} {st : List ot_V}
def ot_T (p : Program) (l : Launch) (e : Env) (R : Room) (s : State) (m : MethodId) (args : Array Value) (below : List Frame) (meth : Method) (c : Code) (g : ot_G) (nL cells slots : Nat) (Q : State → Prop) (L : ot_L) (μ : ot_M) (pc : Nat) (lv : List (Nat × ot_V)) (st : List ot_V) : Prop :=
  ∀ (H : Heap) (locs : List Loc) (ls : Array Slot), ot_P g L μ H → va_S (ot_A g) s.heap H locs → ot_H g.1.size nL lv ls → W p l e R s m args below meth c H locs cells slots Q (F0 m pc ls (st.map (ot_v g.1.size)))
theorem tt_loc (a : List (Nat × ot_V)) (hs : ot_sub a lv) (k : ot_T p l e R s m args below meth c g nL cells slots Q L μ pc a st) : ot_T p l e R s m args below meth c g nL cells slots Q L μ pc lv st :=
  fun H locs ls hP hS hl => k H locs ls hP hS (hl.sub hs)
theorem tt_top {x y : Int} (h : x = y) (k : ot_T p l e R s m args below meth c g nL cells slots Q L μ pc lv (.inl y :: st)) : ot_T p l e R s m args below meth c g nL cells slots Q L μ pc lv (.inl x :: st) := by rw [h]; exact k
theorem tt_mem {μ' : ot_M} (h : μ = μ') (k : ot_T p l e R s m args below meth c g nL cells slots Q L μ' pc lv st) : ot_T p l e R s m args below meth c g nL cells slots Q L μ pc lv st := by rw [h]; exact k
theorem tt_widen {cells' slots' : Nat} (h1 : cells ≤ cells') (h2 : slots ≤ slots') (k : ot_T p l e R s m args below meth c g nL cells' slots' Q L μ pc lv st) : ot_T p l e R s m args below meth c g nL cells slots Q L μ pc lv st :=
  fun H locs ls hP hS hl => W.widen h1 h2 (k H locs ls hP hS hl)
theorem tt_iadd (X : ot_X p s m args c g cc nL own) {x y : Int} (hd : decode cc pc = .ok (.iadd, 1))
    (k : ot_T p l e R s m args below meth c g nL cells slots Q L μ (pc + 1) lv (.inl (x + y) :: st)) : ot_T p l e R s m args below meth c g nL cells slots Q L μ pc lv (.inl y :: .inl x :: st) := by
  intro H locs ls hP hS hl
  refine lv_iadd X.1 X.2.1 hd ?_
  have h := k H locs ls hP hS hl
  have e1 : ot_v g.1.size (.inl (x + y)) = .int (Int32.ofInt x + Int32.ofInt y) := by show Value.int _ = _; rw [Int32.ofInt_add]
  rw [List.map_cons, e1] at h
  exact h
theorem tt_isub (X : ot_X p s m args c g cc nL own) {x y : Int} (hd : decode cc pc = .ok (.isub, 1))
    (k : ot_T p l e R s m args below meth c g nL cells slots Q L μ (pc + 1) lv (.inl (x - y) :: st)) : ot_T p l e R s m args below meth c g nL cells slots Q L μ pc lv (.inl y :: .inl x :: st) := by
  intro H locs ls hP hS hl
  refine lv_isub X.1 X.2.1 hd ?_
  have h := k H locs ls hP hS hl
  have e1 : ot_v g.1.size (.inl (x - y)) = .int (Int32.ofInt x - Int32.ofInt y) := by show Value.int _ = _; rw [Int32.ofInt_sub]
  rw [List.map_cons, e1] at h
  exact h
theorem tt_imul (X : ot_X p s m args c g cc nL own) {x y : Int} (hd : decode cc pc = .ok (.imul, 1))
    (k : ot_T p l e R s m args below meth c g nL cells slots Q L μ (pc + 1) lv (.inl (x * y) :: st)) : ot_T p l e R s m args below meth c g nL cells slots Q L μ pc lv (.inl y :: .inl x :: st) := by
  intro H locs ls hP hS hl
  refine lv_imul X.1 X.2.1 hd ?_
  have h := k H locs ls hP hS hl
  have e1 : ot_v g.1.size (.inl (x * y)) = .int (Int32.ofInt x * Int32.ofInt y) := by show Value.int _ = _; rw [Int32.ofInt_mul]
  rw [List.map_cons, e1] at h
  exact h
theorem tt_ineg (X : ot_X p s m args c g cc nL own) {x : Int} (hd : decode cc pc = .ok (.ineg, 1))
    (k : ot_T p l e R s m args below meth c g nL cells slots Q L μ (pc + 1) lv (.inl (-x) :: st)) : ot_T p l e R s m args below meth c g nL cells slots Q L μ pc lv (.inl x :: st) := by
  intro H locs ls hP hS hl
  refine lv_ineg X.1 X.2.1 hd ?_
  have h := k H locs ls hP hS hl
  have e1 : ot_v g.1.size (.inl (-x)) = .int (-Int32.ofInt x) := by show Value.int _ = _; rw [Int32.ofInt_neg]
  rw [List.map_cons, e1] at h
  exact h
def ot_and (x y : Int) : Int := (Int32.ofInt x &&& Int32.ofInt y).toInt
def ot_or (x y : Int) : Int := (Int32.ofInt x ||| Int32.ofInt y).toInt
def ot_xor (x y : Int) : Int := (Int32.ofInt x ^^^ Int32.ofInt y).toInt
def ot_shl (x y : Int) : Int := (Int32.ofInt x <<< (Int32.ofInt y &&& 31)).toInt
def ot_shr (x y : Int) : Int := (Int32.ofInt x >>> (Int32.ofInt y &&& 31)).toInt
def ot_ushr (x y : Int) : Int := (((Int32.ofInt x).toUInt32 >>> ((Int32.ofInt y).toUInt32 &&& Int32.toUInt32 31)).toInt32).toInt
def ot_div (x y : Int) : Int := (Int32.ofInt x / Int32.ofInt y).toInt
def ot_rem (x y : Int) : Int := (Int32.ofInt x - Int32.ofInt x / Int32.ofInt y * Int32.ofInt y).toInt
theorem ot_asI (x : Int32) : Int32.ofInt x.toInt = x := Int32.ofInt_toInt x
theorem tt_iand (X : ot_X p s m args c g cc nL own) {x y : Int} (hd : decode cc pc = .ok (.iand, 1))
    (k : ot_T p l e R s m args below meth c g nL cells slots Q L μ (pc + 1) lv (.inl (ot_and x y) :: st)) : ot_T p l e R s m args below meth c g nL cells slots Q L μ pc lv (.inl y :: .inl x :: st) := by
  intro H locs ls hP hS hl
  refine lv_iand X.1 X.2.1 hd ?_
  have h := k H locs ls hP hS hl
  have e1 : ot_v g.1.size (.inl (ot_and x y)) = .int (Int32.ofInt x &&& Int32.ofInt y) := by show Value.int (Int32.ofInt _) = _; rw [ot_and, ot_asI]
  rw [List.map_cons, e1] at h
  exact h
theorem tt_ior (X : ot_X p s m args c g cc nL own) {x y : Int} (hd : decode cc pc = .ok (.ior, 1))
    (k : ot_T p l e R s m args below meth c g nL cells slots Q L μ (pc + 1) lv (.inl (ot_or x y) :: st)) : ot_T p l e R s m args below meth c g nL cells slots Q L μ pc lv (.inl y :: .inl x :: st) := by
  intro H locs ls hP hS hl
  refine lv_ior X.1 X.2.1 hd ?_
  have h := k H locs ls hP hS hl
  have e1 : ot_v g.1.size (.inl (ot_or x y)) = .int (Int32.ofInt x ||| Int32.ofInt y) := by show Value.int (Int32.ofInt _) = _; rw [ot_or, ot_asI]
  rw [List.map_cons, e1] at h
  exact h
theorem tt_ixor (X : ot_X p s m args c g cc nL own) {x y : Int} (hd : decode cc pc = .ok (.ixor, 1))
    (k : ot_T p l e R s m args below meth c g nL cells slots Q L μ (pc + 1) lv (.inl (ot_xor x y) :: st)) : ot_T p l e R s m args below meth c g nL cells slots Q L μ pc lv (.inl y :: .inl x :: st) := by
  intro H locs ls hP hS hl
  refine lv_ixor X.1 X.2.1 hd ?_
  have h := k H locs ls hP hS hl
  have e1 : ot_v g.1.size (.inl (ot_xor x y)) = .int (Int32.ofInt x ^^^ Int32.ofInt y) := by show Value.int (Int32.ofInt _) = _; rw [ot_xor, ot_asI]
  rw [List.map_cons, e1] at h
  exact h
theorem tt_ishl (X : ot_X p s m args c g cc nL own) {x y : Int} (hd : decode cc pc = .ok (.ishl, 1))
    (k : ot_T p l e R s m args below meth c g nL cells slots Q L μ (pc + 1) lv (.inl (ot_shl x y) :: st)) : ot_T p l e R s m args below meth c g nL cells slots Q L μ pc lv (.inl y :: .inl x :: st) := by
  intro H locs ls hP hS hl
  refine lv_ishl X.1 X.2.1 hd ?_
  have h := k H locs ls hP hS hl
  have e1 : ot_v g.1.size (.inl (ot_shl x y)) = .int (Int32.ofInt x <<< (Int32.ofInt y &&& 31)) := by show Value.int (Int32.ofInt _) = _; rw [ot_shl, ot_asI]
  rw [List.map_cons, e1] at h
  exact h
theorem tt_ishr (X : ot_X p s m args c g cc nL own) {x y : Int} (hd : decode cc pc = .ok (.ishr, 1))
    (k : ot_T p l e R s m args below meth c g nL cells slots Q L μ (pc + 1) lv (.inl (ot_shr x y) :: st)) : ot_T p l e R s m args below meth c g nL cells slots Q L μ pc lv (.inl y :: .inl x :: st) := by
  intro H locs ls hP hS hl
  refine lv_ishr X.1 X.2.1 hd ?_
  have h := k H locs ls hP hS hl
  have e1 : ot_v g.1.size (.inl (ot_shr x y)) = .int (Int32.ofInt x >>> (Int32.ofInt y &&& 31)) := by show Value.int (Int32.ofInt _) = _; rw [ot_shr, ot_asI]
  rw [List.map_cons, e1] at h
  exact h
theorem tt_iushr (X : ot_X p s m args c g cc nL own) {x y : Int} (hd : decode cc pc = .ok (.iushr, 1))
    (k : ot_T p l e R s m args below meth c g nL cells slots Q L μ (pc + 1) lv (.inl (ot_ushr x y) :: st)) : ot_T p l e R s m args below meth c g nL cells slots Q L μ pc lv (.inl y :: .inl x :: st) := by
  intro H locs ls hP hS hl
  refine lv_iushr (v := Int32.ofInt (ot_ushr x y)) X.1 X.2.1 hd (by rw [ot_ushr, ot_asI]) ?_
  exact k H locs ls hP hS hl
theorem tt_idiv (X : ot_X p s m args c g cc nL own) {x y : Int} (hy : y ≠ 0 ∧ -2147483648 ≤ y ∧ y ≤ 2147483647) (hd : decode cc pc = .ok (.idiv, 1))
    (k : ot_T p l e R s m args below meth c g nL cells slots Q L μ (pc + 1) lv (.inl (ot_div x y) :: st)) : ot_T p l e R s m args below meth c g nL cells slots Q L μ pc lv (.inl y :: .inl x :: st) := by
  intro H locs ls hP hS hl
  refine lv_idiv X.1 X.2.1 hd (by rw [ot_0, ot_eq ⟨hy.2.1, hy.2.2, by omega, by omega⟩]; exact hy.1) ?_
  have h := k H locs ls hP hS hl
  have e1 : ot_v g.1.size (.inl (ot_div x y)) = .int (Int32.ofInt x / Int32.ofInt y) := by show Value.int (Int32.ofInt _) = _; rw [ot_div, ot_asI]
  rw [List.map_cons, e1] at h
  exact h
theorem tt_irem (X : ot_X p s m args c g cc nL own) {x y : Int} (hy : y ≠ 0 ∧ -2147483648 ≤ y ∧ y ≤ 2147483647) (hd : decode cc pc = .ok (.irem, 1))
    (k : ot_T p l e R s m args below meth c g nL cells slots Q L μ (pc + 1) lv (.inl (ot_rem x y) :: st)) : ot_T p l e R s m args below meth c g nL cells slots Q L μ pc lv (.inl y :: .inl x :: st) := by
  intro H locs ls hP hS hl
  refine lv_irem X.1 X.2.1 hd (by rw [ot_0, ot_eq ⟨hy.2.1, hy.2.2, by omega, by omega⟩]; exact hy.1) ?_
  have h := k H locs ls hP hS hl
  have e1 : ot_v g.1.size (.inl (ot_rem x y)) = .int (Int32.ofInt x - Int32.ofInt x / Int32.ofInt y * Int32.ofInt y) := by show Value.int (Int32.ofInt _) = _; rw [ot_rem, ot_asI]
  rw [List.map_cons, e1] at h
  exact h
theorem tt_dup (X : ot_X p s m args c g cc nL own) {v : ot_V} (hd : decode cc pc = .ok (.dup, 1))
    (k : ot_T p l e R s m args below meth c g nL cells slots Q L μ (pc + 1) lv (v :: v :: st)) : ot_T p l e R s m args below meth c g nL cells slots Q L μ pc lv (v :: st) := by
  intro H locs ls hP hS hl
  exact lv_dup X.1 X.2.1 hd (ot_cat _ v) (k H locs ls hP hS hl)
theorem tt_pop (X : ot_X p s m args c g cc nL own) {v : ot_V} (hd : decode cc pc = .ok (.pop, 1))
    (k : ot_T p l e R s m args below meth c g nL cells slots Q L μ (pc + 1) lv st) : ot_T p l e R s m args below meth c g nL cells slots Q L μ pc lv (v :: st) := by
  intro H locs ls hP hS hl
  exact lv_pop X.1 X.2.1 hd (ot_cat _ v) (k H locs ls hP hS hl)
theorem tt_dup_x1 (X : ot_X p s m args c g cc nL own) {v w : ot_V} (hd : decode cc pc = .ok (.dup_x1, 1))
    (k : ot_T p l e R s m args below meth c g nL cells slots Q L μ (pc + 1) lv (v :: w :: v :: st)) : ot_T p l e R s m args below meth c g nL cells slots Q L μ pc lv (v :: w :: st) := by
  intro H locs ls hP hS hl
  exact lv_dup_x1 X.1 X.2.1 hd (ot_cat _ v) (ot_cat _ w) (k H locs ls hP hS hl)
theorem tt_dup_x2 (X : ot_X p s m args c g cc nL own) {v w u : ot_V} (hd : decode cc pc = .ok (.dup_x2, 1))
    (k : ot_T p l e R s m args below meth c g nL cells slots Q L μ (pc + 1) lv (v :: w :: u :: v :: st)) : ot_T p l e R s m args below meth c g nL cells slots Q L μ pc lv (v :: w :: u :: st) := by
  intro H locs ls hP hS hl
  exact lv_dup_x2 X.1 X.2.1 hd (ot_cat _ v) (ot_cat _ w) (ot_cat _ u) (k H locs ls hP hS hl)
theorem tt_dup2 (X : ot_X p s m args c g cc nL own) {v w : ot_V} (hd : decode cc pc = .ok (.dup2, 1))
    (k : ot_T p l e R s m args below meth c g nL cells slots Q L μ (pc + 1) lv (v :: w :: v :: w :: st)) : ot_T p l e R s m args below meth c g nL cells slots Q L μ pc lv (v :: w :: st) := by
  intro H locs ls hP hS hl
  exact lv_dup2_11 X.1 X.2.1 hd (ot_cat _ v) (ot_cat _ w) (k H locs ls hP hS hl)
theorem tt_iload_n (X : ot_X p s m args c g cc nL own) {k0 : Fin 4} {x : Int} (hi : ot_lg lv (k0 : Nat) = some (.inl x)) (hd : decode cc pc = .ok (.iload_n k0, 1))
    (k : ot_T p l e R s m args below meth c g nL cells slots Q L μ (pc + 1) lv (.inl x :: st)) : ot_T p l e R s m args below meth c g nL cells slots Q L μ pc lv st := by
  intro H locs ls hP hS hl
  exact lv_iload_n X.1 X.2.1 hd rfl (hl.2.2 _ _ hi) (k H locs ls hP hS hl)
theorem tt_iload (X : ot_X p s m args c g cc nL own) {i : Nat} {x : Int} (hi : ot_lg lv i = some (.inl x)) (hd : decode cc pc = .ok (.iload i, 2))
    (k : ot_T p l e R s m args below meth c g nL cells slots Q L μ (pc + 2) lv (.inl x :: st)) : ot_T p l e R s m args below meth c g nL cells slots Q L μ pc lv st := by
  intro H locs ls hP hS hl
  exact lv_iload X.1 X.2.1 hd (hl.2.2 _ _ hi) (k H locs ls hP hS hl)
theorem tt_aload_n (X : ot_X p s m args c g cc nL own) {k0 : Fin 4} {x : Nat} (hi : ot_lg lv (k0 : Nat) = some (.inr x)) (hd : decode cc pc = .ok (.aload_n k0, 1))
    (k : ot_T p l e R s m args below meth c g nL cells slots Q L μ (pc + 1) lv (.inr x :: st)) : ot_T p l e R s m args below meth c g nL cells slots Q L μ pc lv st := by
  intro H locs ls hP hS hl
  exact lv_aload_n X.1 X.2.1 hd rfl (hl.2.2 _ _ hi) (k H locs ls hP hS hl)
theorem tt_aload (X : ot_X p s m args c g cc nL own) {i : Nat} {x : Nat} (hi : ot_lg lv i = some (.inr x)) (hd : decode cc pc = .ok (.aload i, 2))
    (k : ot_T p l e R s m args below meth c g nL cells slots Q L μ (pc + 2) lv (.inr x :: st)) : ot_T p l e R s m args below meth c g nL cells slots Q L μ pc lv st := by
  intro H locs ls hP hS hl
  exact lv_aload X.1 X.2.1 hd (hl.2.2 _ _ hi) (k H locs ls hP hS hl)
theorem tt_istore_n (X : ot_X p s m args c g cc nL own) {k0 : Fin 4} {x : Int} (hd : decode cc pc = .ok (.istore_n k0, 1)) (hn : (k0 : Nat) < nL)
    (k : ot_T p l e R s m args below meth c g nL cells slots Q L μ (pc + 1) (((k0 : Nat), .inl x) :: lv) st) : ot_T p l e R s m args below meth c g nL cells slots Q L μ pc lv (.inl x :: st) := by
  intro H locs ls hP hS hl
  exact lv_istore_n X.1 X.2.1 hd rfl hl.has hn rfl (fun ls2 h2 => k H locs ls2 hP hS (ot_H.put hl h2))
theorem tt_istore (X : ot_X p s m args c g cc nL own) {i : Nat} {x : Int} (hd : decode cc pc = .ok (.istore i, 2)) (hn : i < nL)
    (k : ot_T p l e R s m args below meth c g nL cells slots Q L μ (pc + 2) ((i, .inl x) :: lv) st) : ot_T p l e R s m args below meth c g nL cells slots Q L μ pc lv (.inl x :: st) := by
  intro H locs ls hP hS hl
  exact lv_istore X.1 X.2.1 hd hl.has hn rfl (fun ls2 h2 => k H locs ls2 hP hS (ot_H.put hl h2))
theorem tt_astore_n (X : ot_X p s m args c g cc nL own) {k0 : Fin 4} {x : Nat} (hd : decode cc pc = .ok (.astore_n k0, 1)) (hn : (k0 : Nat) < nL)
    (k : ot_T p l e R s m args below meth c g nL cells slots Q L μ (pc + 1) (((k0 : Nat), .inr x) :: lv) st) : ot_T p l e R s m args below meth c g nL cells slots Q L μ pc lv (.inr x :: st) := by
  intro H locs ls hP hS hl
  exact lv_astore_n X.1 X.2.1 hd rfl hl.has hn rfl (fun ls2 h2 => k H locs ls2 hP hS (ot_H.put hl h2))
theorem tt_astore (X : ot_X p s m args c g cc nL own) {i : Nat} {x : Nat} (hd : decode cc pc = .ok (.astore i, 2)) (hn : i < nL)
    (k : ot_T p l e R s m args below meth c g nL cells slots Q L μ (pc + 2) ((i, .inr x) :: lv) st) : ot_T p l e R s m args below meth c g nL cells slots Q L μ pc lv (.inr x :: st) := by
  intro H locs ls hP hS hl
  exact lv_astore X.1 X.2.1 hd hl.has hn rfl (fun ls2 h2 => k H locs ls2 hP hS (ot_H.put hl h2))
theorem tt_iinc (X : ot_X p s m args c g cc nL own) {i : Nat} {x d : Int} (hd : decode cc pc = .ok (.iinc i d, 3)) (hi : ot_lg lv i = some (.inl x)) (hn : i < nL)
    (k : ot_T p l e R s m args below meth c g nL cells slots Q L μ (pc + 3) ((i, .inl (x + d)) :: lv) st) : ot_T p l e R s m args below meth c g nL cells slots Q L μ pc lv st := by
  intro H locs ls hP hS hl
  have hm : (i, ot_i x) ∈ ot_ll g.1.size nL lv := List.mem_filterMap.mpr ⟨i, List.mem_range.mpr hn, by rw [hi]; rfl⟩
  obtain ⟨j, hj⟩ := List.getElem?_of_mem hm
  refine lv_iinc (v := Int32.ofInt (x + d)) X.1 X.2.1 hd hl.has hj (Int32.ofInt_add x d).symm hn rfl (fun ls2 h2 => k H locs ls2 hP hS (ot_H.put (x := .inl (x + d)) hl h2))
theorem tt_iconst (X : ot_X p s m args c g cc nL own) {n : Int} (hd : decode cc pc = .ok (.iconst n, 1))
    (k : ot_T p l e R s m args below meth c g nL cells slots Q L μ (pc + 1) lv (.inl n :: st)) : ot_T p l e R s m args below meth c g nL cells slots Q L μ pc lv st := by
  intro H locs ls hP hS hl
  exact lv_iconst X.1 X.2.1 hd rfl (k H locs ls hP hS hl)
theorem tt_bipush (X : ot_X p s m args c g cc nL own) {n : Int} (hv : (Int8.ofInt n).toInt32 = Int32.ofInt n) (hd : decode cc pc = .ok (.bipush n, 2))
    (k : ot_T p l e R s m args below meth c g nL cells slots Q L μ (pc + 2) lv (.inl n :: st)) : ot_T p l e R s m args below meth c g nL cells slots Q L μ pc lv st := by
  intro H locs ls hP hS hl
  exact lv_bipush X.1 X.2.1 hd hv (k H locs ls hP hS hl)
theorem tt_sipush (X : ot_X p s m args c g cc nL own) {n : Int} (hv : (Int16.ofInt n).toInt32 = Int32.ofInt n) (hd : decode cc pc = .ok (.sipush n, 3))
    (k : ot_T p l e R s m args below meth c g nL cells slots Q L μ (pc + 3) lv (.inl n :: st)) : ot_T p l e R s m args below meth c g nL cells slots Q L μ pc lv st := by
  intro H locs ls hP hS hl
  exact lv_sipush X.1 X.2.1 hd hv (k H locs ls hP hS hl)
theorem tt_ldc (X : ot_X p s m args c g cc nL own) {i : Nat} {n : Int} (hc : Cond.constant own i (Int32.ofInt n) ∈ ot_ws) (hd : decode cc pc = .ok (.ldc i, 2))
    (k : ot_T p l e R s m args below meth c g nL cells slots Q L μ (pc + 2) lv (.inl n :: st)) : ot_T p l e R s m args below meth c g nL cells slots Q L μ pc lv st := by
  intro H locs ls hP hS hl
  exact lv_ldc X.1 X.2.1 X.2.2.2.1 (X.2.2.2.2.1 _ hc) hd (k H locs ls hP hS hl)
theorem tt_icmp_eq (X : ot_X p s m args c g cc nL own) {x y off : Int} (tgt : Nat) (hr : -2147483648 ≤ x ∧ x ≤ 2147483647 ∧ -2147483648 ≤ y ∧ y ≤ 2147483647) (hd : decode cc pc = .ok (.if_icmp .eq off, 3)) (ht : (pc : Int) + off = (tgt : Int))
    (kt : x = y → ot_T p l e R s m args below meth c g nL cells slots Q L μ tgt lv st) (kf : ¬ (x = y) → ot_T p l e R s m args below meth c g nL cells slots Q L μ (pc + 3) lv st) : ot_T p l e R s m args below meth c g nL cells slots Q L μ pc lv (.inl y :: .inl x :: st) := by
  intro H locs ls hP hS hl
  refine lv_icmp_eq X.1 X.2.1 hd ht (fun q => kt ?_ H locs ls hP hS hl) (fun q => kf ?_ H locs ls hP hS hl)
  · first | exact (ot_eq hr).mp q | exact fun z => q ((ot_eq hr).mpr z)
  · first | exact fun z => q ((ot_eq hr).mpr z) | exact fun z => z ((ot_eq hr).mp q)
theorem tt_icmp_ne (X : ot_X p s m args c g cc nL own) {x y off : Int} (tgt : Nat) (hr : -2147483648 ≤ x ∧ x ≤ 2147483647 ∧ -2147483648 ≤ y ∧ y ≤ 2147483647) (hd : decode cc pc = .ok (.if_icmp .ne off, 3)) (ht : (pc : Int) + off = (tgt : Int))
    (kt : x ≠ y → ot_T p l e R s m args below meth c g nL cells slots Q L μ tgt lv st) (kf : ¬ (x ≠ y) → ot_T p l e R s m args below meth c g nL cells slots Q L μ (pc + 3) lv st) : ot_T p l e R s m args below meth c g nL cells slots Q L μ pc lv (.inl y :: .inl x :: st) := by
  intro H locs ls hP hS hl
  refine lv_icmp_ne X.1 X.2.1 hd ht (fun q => kt ?_ H locs ls hP hS hl) (fun q => kf ?_ H locs ls hP hS hl)
  · first | exact (ot_eq hr).mp q | exact fun z => q ((ot_eq hr).mpr z)
  · first | exact fun z => q ((ot_eq hr).mpr z) | exact fun z => z ((ot_eq hr).mp q)
theorem tt_icmp_lt (X : ot_X p s m args c g cc nL own) {x y off : Int} (tgt : Nat) (hr : -2147483648 ≤ x ∧ x ≤ 2147483647 ∧ -2147483648 ≤ y ∧ y ≤ 2147483647) (hd : decode cc pc = .ok (.if_icmp .lt off, 3)) (ht : (pc : Int) + off = (tgt : Int))
    (kt : x < y → ot_T p l e R s m args below meth c g nL cells slots Q L μ tgt lv st) (kf : ¬ (x < y) → ot_T p l e R s m args below meth c g nL cells slots Q L μ (pc + 3) lv st) : ot_T p l e R s m args below meth c g nL cells slots Q L μ pc lv (.inl y :: .inl x :: st) := by
  intro H locs ls hP hS hl
  refine lv_icmp_lt X.1 X.2.1 hd ht (fun q => kt ?_ H locs ls hP hS hl) (fun q => kf ?_ H locs ls hP hS hl)
  · first | exact (ot_lt hr).mp q | exact fun z => q ((ot_lt hr).mpr z)
  · first | exact fun z => q ((ot_lt hr).mpr z) | exact fun z => z ((ot_lt hr).mp q)
theorem tt_icmp_ge (X : ot_X p s m args c g cc nL own) {x y off : Int} (tgt : Nat) (hr : -2147483648 ≤ x ∧ x ≤ 2147483647 ∧ -2147483648 ≤ y ∧ y ≤ 2147483647) (hd : decode cc pc = .ok (.if_icmp .ge off, 3)) (ht : (pc : Int) + off = (tgt : Int))
    (kt : y ≤ x → ot_T p l e R s m args below meth c g nL cells slots Q L μ tgt lv st) (kf : ¬ (y ≤ x) → ot_T p l e R s m args below meth c g nL cells slots Q L μ (pc + 3) lv st) : ot_T p l e R s m args below meth c g nL cells slots Q L μ pc lv (.inl y :: .inl x :: st) := by
  intro H locs ls hP hS hl
  refine lv_icmp_ge X.1 X.2.1 hd ht (fun q => kt ?_ H locs ls hP hS hl) (fun q => kf ?_ H locs ls hP hS hl)
  · first | exact (ot_le ⟨hr.2.2.1, hr.2.2.2, hr.1, hr.2.1⟩).mp q | exact fun z => q ((ot_le ⟨hr.2.2.1, hr.2.2.2, hr.1, hr.2.1⟩).mpr z)
  · first | exact fun z => q ((ot_le ⟨hr.2.2.1, hr.2.2.2, hr.1, hr.2.1⟩).mpr z) | exact fun z => z ((ot_le ⟨hr.2.2.1, hr.2.2.2, hr.1, hr.2.1⟩).mp q)
theorem tt_icmp_gt (X : ot_X p s m args c g cc nL own) {x y off : Int} (tgt : Nat) (hr : -2147483648 ≤ x ∧ x ≤ 2147483647 ∧ -2147483648 ≤ y ∧ y ≤ 2147483647) (hd : decode cc pc = .ok (.if_icmp .gt off, 3)) (ht : (pc : Int) + off = (tgt : Int))
    (kt : y < x → ot_T p l e R s m args below meth c g nL cells slots Q L μ tgt lv st) (kf : ¬ (y < x) → ot_T p l e R s m args below meth c g nL cells slots Q L μ (pc + 3) lv st) : ot_T p l e R s m args below meth c g nL cells slots Q L μ pc lv (.inl y :: .inl x :: st) := by
  intro H locs ls hP hS hl
  refine lv_icmp_gt X.1 X.2.1 hd ht (fun q => kt ?_ H locs ls hP hS hl) (fun q => kf ?_ H locs ls hP hS hl)
  · first | exact (ot_lt ⟨hr.2.2.1, hr.2.2.2, hr.1, hr.2.1⟩).mp q | exact fun z => q ((ot_lt ⟨hr.2.2.1, hr.2.2.2, hr.1, hr.2.1⟩).mpr z)
  · first | exact fun z => q ((ot_lt ⟨hr.2.2.1, hr.2.2.2, hr.1, hr.2.1⟩).mpr z) | exact fun z => z ((ot_lt ⟨hr.2.2.1, hr.2.2.2, hr.1, hr.2.1⟩).mp q)
theorem tt_icmp_le (X : ot_X p s m args c g cc nL own) {x y off : Int} (tgt : Nat) (hr : -2147483648 ≤ x ∧ x ≤ 2147483647 ∧ -2147483648 ≤ y ∧ y ≤ 2147483647) (hd : decode cc pc = .ok (.if_icmp .le off, 3)) (ht : (pc : Int) + off = (tgt : Int))
    (kt : x ≤ y → ot_T p l e R s m args below meth c g nL cells slots Q L μ tgt lv st) (kf : ¬ (x ≤ y) → ot_T p l e R s m args below meth c g nL cells slots Q L μ (pc + 3) lv st) : ot_T p l e R s m args below meth c g nL cells slots Q L μ pc lv (.inl y :: .inl x :: st) := by
  intro H locs ls hP hS hl
  refine lv_icmp_le X.1 X.2.1 hd ht (fun q => kt ?_ H locs ls hP hS hl) (fun q => kf ?_ H locs ls hP hS hl)
  · first | exact (ot_le hr).mp q | exact fun z => q ((ot_le hr).mpr z)
  · first | exact fun z => q ((ot_le hr).mpr z) | exact fun z => z ((ot_le hr).mp q)
theorem tt_if_eq (X : ot_X p s m args c g cc nL own) {x off : Int} (tgt : Nat) (hr : -2147483648 ≤ x ∧ x ≤ 2147483647) (hd : decode cc pc = .ok (.ifCond .eq off, 3)) (ht : (pc : Int) + off = (tgt : Int))
    (kt : x = 0 → ot_T p l e R s m args below meth c g nL cells slots Q L μ tgt lv st) (kf : ¬ (x = 0) → ot_T p l e R s m args below meth c g nL cells slots Q L μ (pc + 3) lv st) : ot_T p l e R s m args below meth c g nL cells slots Q L μ pc lv (.inl x :: st) := by
  intro H locs ls hP hS hl
  have h2 : -2147483648 ≤ x ∧ x ≤ 2147483647 ∧ -2147483648 ≤ (0 : Int) ∧ (0 : Int) ≤ 2147483647 := ⟨hr.1, hr.2, by omega, by omega⟩
  have h3 : -2147483648 ≤ (0 : Int) ∧ (0 : Int) ≤ 2147483647 ∧ -2147483648 ≤ x ∧ x ≤ 2147483647 := ⟨by omega, by omega, hr.1, hr.2⟩
  refine lv_if_eq X.1 X.2.1 hd ht (fun q => kt ?_ H locs ls hP hS hl) (fun q => kf ?_ H locs ls hP hS hl)
  · first | exact (ot_eq h2).mp q | exact (ot_eq h3).mp q | exact fun z => q ((ot_eq h2).mpr z)
  · first | exact fun z => q ((ot_eq h2).mpr z) | exact fun z => q ((ot_eq h3).mpr z) | exact fun z => z ((ot_eq h2).mp q)
theorem tt_if_ne (X : ot_X p s m args c g cc nL own) {x off : Int} (tgt : Nat) (hr : -2147483648 ≤ x ∧ x ≤ 2147483647) (hd : decode cc pc = .ok (.ifCond .ne off, 3)) (ht : (pc : Int) + off = (tgt : Int))
    (kt : x ≠ 0 → ot_T p l e R s m args below meth c g nL cells slots Q L μ tgt lv st) (kf : ¬ (x ≠ 0) → ot_T p l e R s m args below meth c g nL cells slots Q L μ (pc + 3) lv st) : ot_T p l e R s m args below meth c g nL cells slots Q L μ pc lv (.inl x :: st) := by
  intro H locs ls hP hS hl
  have h2 : -2147483648 ≤ x ∧ x ≤ 2147483647 ∧ -2147483648 ≤ (0 : Int) ∧ (0 : Int) ≤ 2147483647 := ⟨hr.1, hr.2, by omega, by omega⟩
  have h3 : -2147483648 ≤ (0 : Int) ∧ (0 : Int) ≤ 2147483647 ∧ -2147483648 ≤ x ∧ x ≤ 2147483647 := ⟨by omega, by omega, hr.1, hr.2⟩
  refine lv_if_ne X.1 X.2.1 hd ht (fun q => kt ?_ H locs ls hP hS hl) (fun q => kf ?_ H locs ls hP hS hl)
  · first | exact (ot_eq h2).mp q | exact (ot_eq h3).mp q | exact fun z => q ((ot_eq h2).mpr z)
  · first | exact fun z => q ((ot_eq h2).mpr z) | exact fun z => q ((ot_eq h3).mpr z) | exact fun z => z ((ot_eq h2).mp q)
theorem tt_if_lt (X : ot_X p s m args c g cc nL own) {x off : Int} (tgt : Nat) (hr : -2147483648 ≤ x ∧ x ≤ 2147483647) (hd : decode cc pc = .ok (.ifCond .lt off, 3)) (ht : (pc : Int) + off = (tgt : Int))
    (kt : x < 0 → ot_T p l e R s m args below meth c g nL cells slots Q L μ tgt lv st) (kf : ¬ (x < 0) → ot_T p l e R s m args below meth c g nL cells slots Q L μ (pc + 3) lv st) : ot_T p l e R s m args below meth c g nL cells slots Q L μ pc lv (.inl x :: st) := by
  intro H locs ls hP hS hl
  have h2 : -2147483648 ≤ x ∧ x ≤ 2147483647 ∧ -2147483648 ≤ (0 : Int) ∧ (0 : Int) ≤ 2147483647 := ⟨hr.1, hr.2, by omega, by omega⟩
  have h3 : -2147483648 ≤ (0 : Int) ∧ (0 : Int) ≤ 2147483647 ∧ -2147483648 ≤ x ∧ x ≤ 2147483647 := ⟨by omega, by omega, hr.1, hr.2⟩
  refine lv_if_lt X.1 X.2.1 hd ht (fun q => kt ?_ H locs ls hP hS hl) (fun q => kf ?_ H locs ls hP hS hl)
  · first | exact (ot_lt h2).mp q | exact (ot_lt h3).mp q | exact fun z => q ((ot_lt h2).mpr z)
  · first | exact fun z => q ((ot_lt h2).mpr z) | exact fun z => q ((ot_lt h3).mpr z) | exact fun z => z ((ot_lt h2).mp q)
theorem tt_if_ge (X : ot_X p s m args c g cc nL own) {x off : Int} (tgt : Nat) (hr : -2147483648 ≤ x ∧ x ≤ 2147483647) (hd : decode cc pc = .ok (.ifCond .ge off, 3)) (ht : (pc : Int) + off = (tgt : Int))
    (kt : 0 ≤ x → ot_T p l e R s m args below meth c g nL cells slots Q L μ tgt lv st) (kf : ¬ (0 ≤ x) → ot_T p l e R s m args below meth c g nL cells slots Q L μ (pc + 3) lv st) : ot_T p l e R s m args below meth c g nL cells slots Q L μ pc lv (.inl x :: st) := by
  intro H locs ls hP hS hl
  have h2 : -2147483648 ≤ x ∧ x ≤ 2147483647 ∧ -2147483648 ≤ (0 : Int) ∧ (0 : Int) ≤ 2147483647 := ⟨hr.1, hr.2, by omega, by omega⟩
  have h3 : -2147483648 ≤ (0 : Int) ∧ (0 : Int) ≤ 2147483647 ∧ -2147483648 ≤ x ∧ x ≤ 2147483647 := ⟨by omega, by omega, hr.1, hr.2⟩
  refine lv_if_ge X.1 X.2.1 hd ht (fun q => kt ?_ H locs ls hP hS hl) (fun q => kf ?_ H locs ls hP hS hl)
  · first | exact (ot_le h2).mp q | exact (ot_le h3).mp q | exact fun z => q ((ot_le h2).mpr z)
  · first | exact fun z => q ((ot_le h2).mpr z) | exact fun z => q ((ot_le h3).mpr z) | exact fun z => z ((ot_le h2).mp q)
theorem tt_if_gt (X : ot_X p s m args c g cc nL own) {x off : Int} (tgt : Nat) (hr : -2147483648 ≤ x ∧ x ≤ 2147483647) (hd : decode cc pc = .ok (.ifCond .gt off, 3)) (ht : (pc : Int) + off = (tgt : Int))
    (kt : 0 < x → ot_T p l e R s m args below meth c g nL cells slots Q L μ tgt lv st) (kf : ¬ (0 < x) → ot_T p l e R s m args below meth c g nL cells slots Q L μ (pc + 3) lv st) : ot_T p l e R s m args below meth c g nL cells slots Q L μ pc lv (.inl x :: st) := by
  intro H locs ls hP hS hl
  have h2 : -2147483648 ≤ x ∧ x ≤ 2147483647 ∧ -2147483648 ≤ (0 : Int) ∧ (0 : Int) ≤ 2147483647 := ⟨hr.1, hr.2, by omega, by omega⟩
  have h3 : -2147483648 ≤ (0 : Int) ∧ (0 : Int) ≤ 2147483647 ∧ -2147483648 ≤ x ∧ x ≤ 2147483647 := ⟨by omega, by omega, hr.1, hr.2⟩
  refine lv_if_gt X.1 X.2.1 hd ht (fun q => kt ?_ H locs ls hP hS hl) (fun q => kf ?_ H locs ls hP hS hl)
  · first | exact (ot_lt h2).mp q | exact (ot_lt h3).mp q | exact fun z => q ((ot_lt h2).mpr z)
  · first | exact fun z => q ((ot_lt h2).mpr z) | exact fun z => q ((ot_lt h3).mpr z) | exact fun z => z ((ot_lt h2).mp q)
theorem tt_if_le (X : ot_X p s m args c g cc nL own) {x off : Int} (tgt : Nat) (hr : -2147483648 ≤ x ∧ x ≤ 2147483647) (hd : decode cc pc = .ok (.ifCond .le off, 3)) (ht : (pc : Int) + off = (tgt : Int))
    (kt : x ≤ 0 → ot_T p l e R s m args below meth c g nL cells slots Q L μ tgt lv st) (kf : ¬ (x ≤ 0) → ot_T p l e R s m args below meth c g nL cells slots Q L μ (pc + 3) lv st) : ot_T p l e R s m args below meth c g nL cells slots Q L μ pc lv (.inl x :: st) := by
  intro H locs ls hP hS hl
  have h2 : -2147483648 ≤ x ∧ x ≤ 2147483647 ∧ -2147483648 ≤ (0 : Int) ∧ (0 : Int) ≤ 2147483647 := ⟨hr.1, hr.2, by omega, by omega⟩
  have h3 : -2147483648 ≤ (0 : Int) ∧ (0 : Int) ≤ 2147483647 ∧ -2147483648 ≤ x ∧ x ≤ 2147483647 := ⟨by omega, by omega, hr.1, hr.2⟩
  refine lv_if_le X.1 X.2.1 hd ht (fun q => kt ?_ H locs ls hP hS hl) (fun q => kf ?_ H locs ls hP hS hl)
  · first | exact (ot_le h2).mp q | exact (ot_le h3).mp q | exact fun z => q ((ot_le h2).mpr z)
  · first | exact fun z => q ((ot_le h2).mpr z) | exact fun z => q ((ot_le h3).mpr z) | exact fun z => z ((ot_le h2).mp q)
theorem tt_goto (X : ot_X p s m args c g cc nL own) {off : Int} (tgt : Nat) (hd : decode cc pc = .ok (.goto off, 3)) (ht : (pc : Int) + off = (tgt : Int))
    (k : ot_T p l e R s m args below meth c g nL cells slots Q L μ tgt lv st) : ot_T p l e R s m args below meth c g nL cells slots Q L μ pc lv st := by
  intro H locs ls hP hS hl
  exact lv_goto X.1 X.2.1 hd ht (k H locs ls hP hS hl)
theorem tt_iaload (X : ot_X p s m args c g cc nL own) {k0 n : Nat} {rs : List (Option Nat)} {i : Int} (hk : L[k0]? = some (0, n, rs)) (hi : 0 ≤ i ∧ i < n ∧ i ≤ 2147483647) (hd : decode cc pc = .ok (.iaload, 1))
    (k : ot_T p l e R s m args below meth c g nL cells slots Q L μ (pc + 1) lv (.inl (μ k0 i) :: st)) : ot_T p l e R s m args below meth c g nL cells slots Q L μ pc lv (.inl i :: .inr k0 :: st) := by
  intro H locs ls hP hS hl
  refine va_iald X.1 X.2.1 X.2.2.2.2.2.1.1 hP.1 k0 0 (ot_w_at hk) rfl (ot_in hi) hd ?_
  have h := k H locs ls hP hS hl
  rw [ot_cl_of hi.1 hi.2.2]
  have e1 : ot_v g.1.size (.inl (μ k0 i)) = .int (Int32.ofInt (μ k0 (i.toNat : Int))) := by show Value.int _ = _; rw [Int.toNat_of_nonneg hi.1]
  rw [List.map_cons, e1] at h
  exact h
theorem tt_baload (X : ot_X p s m args c g cc nL own) {k0 n : Nat} {rs : List (Option Nat)} {i : Int} (hk : L[k0]? = some (1, n, rs)) (hi : 0 ≤ i ∧ i < n ∧ i ≤ 2147483647) (hd : decode cc pc = .ok (.baload, 1))
    (k : ot_T p l e R s m args below meth c g nL cells slots Q L μ (pc + 1) lv (.inl (μ k0 i) :: st)) : ot_T p l e R s m args below meth c g nL cells slots Q L μ pc lv (.inl i :: .inr k0 :: st) := by
  intro H locs ls hP hS hl
  refine va_zald X.1 X.2.1 X.2.2.2.2.2.1.1 hP.1 k0 1 (ot_w_at hk) rfl (ot_in hi) hd ?_
  have h := k H locs ls hP hS hl
  rw [ot_cl_of hi.1 hi.2.2]
  have e1 : ot_v g.1.size (.inl (μ k0 i)) = .int (Int32.ofInt (μ k0 (i.toNat : Int))) := by show Value.int _ = _; rw [Int.toNat_of_nonneg hi.1]
  rw [List.map_cons, e1] at h
  exact h
theorem tt_alen (X : ot_X p s m args c g cc nL own) {k0 t n : Nat} {rs : List (Option Nat)} (hk : L[k0]? = some (t, n, rs)) (ht : t < 2) (hd : decode cc pc = .ok (.arraylength, 1))
    (k : ot_T p l e R s m args below meth c g nL cells slots Q L μ (pc + 1) lv (.inl (n : Int) :: st)) : ot_T p l e R s m args below meth c g nL cells slots Q L μ pc lv (.inr k0 :: st) := by
  intro H locs ls hP hS hl
  have h := k H locs ls hP hS hl
  match t, ht, hk with
  | 0, _, hk => exact va_alen X.1 X.2.1 X.2.2.2.2.2.1.1 hP.1 k0 0 (ot_w_at hk) rfl (v := Int32.ofInt (n : Int)) (Int32.ofInt_eq_ofNat).symm hd h
  | 1, _, hk => exact va_alen X.1 X.2.1 X.2.2.2.2.2.1.1 hP.1 k0 1 (ot_w_at hk) rfl (v := Int32.ofInt (n : Int)) (Int32.ofInt_eq_ofNat).symm hd h
theorem ot_keep {H H1 : Heap} {k : Nat} {L L2 : ot_L} {μ μ2 : ot_M} (hP : ot_P g L μ H) (hP1 : va_P g.2.1 ot_cl (ot_w g L2 μ2) H1) (hl : L2.length = L.length) (hz : H1.size = H.size) (ho : ∀ q, q ≠ g.1.size + k → H1[q]? = H[q]?) : ot_P g L2 μ2 H1 :=
  ⟨hP1, by rw [hz, hl]; exact hP.2.1, fun q hq => by rw [ho q (by omega)]; exact hP.2.2 q hq⟩
theorem tt_iastore (X : ot_X p s m args c g cc nL own) {k0 n : Nat} {rs : List (Option Nat)} {i x : Int} (hk : L[k0]? = some (0, n, rs)) (hi : 0 ≤ i ∧ i < n ∧ i ≤ 2147483647) (hd : decode cc pc = .ok (.iastore, 1))
    (k : ot_T p l e R s m args below meth c g nL cells slots Q L (ot_up μ k0 i x) (pc + 1) lv st) : ot_T p l e R s m args below meth c g nL cells slots Q L μ pc lv (.inl x :: .inl i :: .inr k0 :: st) := by
  intro H locs ls hP hS hl
  have ha := ot_w_at (g := g) (μ := μ) hk
  have hK := X.2.2.2.2.2.1.1
  refine W.iast X.1 X.2.1 (hP.1 k0 _ ha) ((hK.2 0 _ rfl).1 n (fun j => .int (Int32.ofInt (μ k0 (j : Int))))) (fun q => by cases q) (by show ¬ (_ < 0 ∨ (arrV _ _ _).slots.size ≤ _); rw [arrV_size]; exact ot_in hi) rfl rfl hd fun H1 e1 z oq => ?_
  have hlt : k0 < L.length := (List.getElem?_eq_some_iff.mp hk).1
  have hset : (ot_w g L μ).set k0 (g.1.size + k0, ot_c g (ot_up μ k0 i x k0) (0, n, rs)) = ot_w g L (ot_up μ k0 i x) := ot_w_set hlt (ot_set_self hk) rfl (fun j hj => by funext q; simp [ot_up, hj])
  have hP1 := hP.1.set (ot_w_D g L μ) ha (e := ot_c g (ot_up μ k0 i x k0) (0, n, rs)) (H1 := H1) (by
    show H1[g.1.size + k0]? = some (vp_cell _ _)
    rw [e1]
    rw [vp_cell_i, vp_cell_i, arrV_store]
    congr 2
    funext q
    rw [ot_cl_of hi.1 hi.2.2]
    by_cases hq : q = i.toNat
    · subst hq
      simp [updV, ot_up, Int.toNat_of_nonneg hi.1]
    · have : (q : Int) ≠ i := fun z => hq (by omega)
      simp [updV, ot_up, hq, this]) oq
  rw [hset] at hP1
  exact k H1 _ ls (ot_keep hP hP1 rfl z oq) (hS.put z oq ((ot_w_D g L μ).2 k0 _ ha)) hl
theorem tt_bastore (X : ot_X p s m args c g cc nL own) {k0 n : Nat} {rs : List (Option Nat)} {i x : Int} (hk : L[k0]? = some (1, n, rs)) (hi : 0 ≤ i ∧ i < n ∧ i ≤ 2147483647) (hx : x = 0 ∨ x = 1) (hd : decode cc pc = .ok (.bastore, 1))
    (k : ot_T p l e R s m args below meth c g nL cells slots Q L (ot_up μ k0 i x) (pc + 1) lv st) : ot_T p l e R s m args below meth c g nL cells slots Q L μ pc lv (.inl x :: .inl i :: .inr k0 :: st) := by
  intro H locs ls hP hS hl
  have ha := ot_w_at (g := g) (μ := μ) hk
  have hK := X.2.2.2.2.2.1.1
  refine W.zast X.1 X.2.1 (hP.1 k0 _ ha) ((hK.2 1 _ rfl).1 n (fun j => .int (Int32.ofInt (μ k0 (j : Int))))) (fun q => by cases q) (by show ¬ (_ < 0 ∨ (arrV _ _ _).slots.size ≤ _); rw [arrV_size]; exact ot_in hi) rfl rfl hd fun H1 e1 z oq => ?_
  have hlt : k0 < L.length := (List.getElem?_eq_some_iff.mp hk).1
  have hset : (ot_w g L μ).set k0 (g.1.size + k0, ot_c g (ot_up μ k0 i x k0) (1, n, rs)) = ot_w g L (ot_up μ k0 i x) := ot_w_set hlt (ot_set_self hk) rfl (fun j hj => by funext q; simp [ot_up, hj])
  have hnx : narrow .boolean (.int (Int32.ofInt x)) = .int (Int32.ofInt x) := by rcases hx with rfl | rfl <;> decide
  rw [hnx] at e1
  have hP1 := hP.1.set (ot_w_D g L μ) ha (e := ot_c g (ot_up μ k0 i x k0) (1, n, rs)) (H1 := H1) (by
    show H1[g.1.size + k0]? = some (vp_cell _ _)
    rw [e1]
    rw [vp_cell_i, vp_cell_i, arrV_store]
    congr 2
    funext q
    rw [ot_cl_of hi.1 hi.2.2]
    by_cases hq : q = i.toNat
    · subst hq
      simp [updV, ot_up, Int.toNat_of_nonneg hi.1]
    · have : (q : Int) ≠ i := fun z => hq (by omega)
      simp [updV, ot_up, hq, this]) oq
  rw [hset] at hP1
  exact k H1 _ ls (ot_keep hP hP1 rfl z oq) (hS.put z oq ((ot_w_D g L μ).2 k0 _ ha)) hl
theorem tt_geti (X : ot_X p s m args c g cc nL own) {idx k0 cn n j : Nat} {ji : Int} {rs : List (Option Nat)} (hf : ot_FI own idx cn j ji) (hk : L[k0]? = some (cn + 2, n, rs)) (hj : j < ot_nf cn) (hty : ot_tf cn j = .int ∨ ot_tf cn j = .boolean) (hd : decode cc pc = .ok (.getfield idx, 3))
    (k : ot_T p l e R s m args below meth c g nL cells slots Q L μ (pc + 3) lv (.inl (μ k0 ji) :: st)) : ot_T p l e R s m args below meth c g nL cells slots Q L μ pc lv (.inr k0 :: st) := by
  intro H locs ls hP hS hl
  obtain ⟨q, h1, h2, h3, h4, rfl⟩ := hf
  refine va_get X.1 X.2.1 X.2.2.2.2.1 h3 X.2.2.2.1 X.2.2.2.2.2.1.1 hP.1 k0 (ot_w_at hk) h1 j h2 (X.2.2.2.2.1 _ h4) (fun _ h => h) (ot_fs_get hj) hd ?_
  have h := k H locs ls hP hS hl
  rcases hty with e1 | e1
  · rw [e1]; exact h
  · rw [e1]; exact h
theorem tt_getr (X : ot_X p s m args c g cc nL own) {idx k0 cn n j r : Nat} {ji : Int} {rs : List (Option Nat)} (hf : ot_FI own idx cn j ji) (hk : L[k0]? = some (cn + 2, n, rs)) (hj : j < ot_nf cn) (hty : ot_tf cn j ≠ .int ∧ ot_tf cn j ≠ .boolean) (hr : rs.getD j none = some r) (hd : decode cc pc = .ok (.getfield idx, 3))
    (k : ot_T p l e R s m args below meth c g nL cells slots Q L μ (pc + 3) lv (.inr r :: st)) : ot_T p l e R s m args below meth c g nL cells slots Q L μ pc lv (.inr k0 :: st) := by
  intro H locs ls hP hS hl
  obtain ⟨q, h1, h2, h3, h4, rfl⟩ := hf
  refine va_get X.1 X.2.1 X.2.2.2.2.1 h3 X.2.2.2.1 X.2.2.2.2.2.1.1 hP.1 k0 (ot_w_at hk) h1 j h2 (X.2.2.2.2.1 _ h4) (fun _ h => h) (ot_fs_get hj) hd ?_
  have h := k H locs ls hP hS hl
  have e1 : ot_f g.1.size (ot_tf cn j) (μ k0 (j : Int)) (rs.getD j none) = .ref (g.1.size + r) := by
    rw [hr]
    unfold ot_f
    split
    · rename_i z; exact absurd z hty.1
    · rename_i z; exact absurd z hty.2
    · rfl
  rw [e1]
  exact h

/-- a store into a field, of any kind: the world behind it -/
theorem ot_put {C : String} {T : u_T} {N ci k0 j : Nat} {fs : List Value} {v : Value} {H H1 : Heap} {ws : va_W} {A : Nat → Prop} {a : Nat} {cell : Cell} {D : va_G} (hP : va_P D ot_cl ws H) (hD : va_D A ws) (he : ws[k0]? = some (a, .inr (ci, fs))) (hc : ot_cl[ci]? = some (C, T, N)) (hj : j < N) (hl : j < fs.length)
    (hap : ∀ x y, x < N → y < N → x ≠ y → (D.2 ci) x ≠ (D.2 ci) y) (q2 : cell.cls = D.1 ci) (q3 : cell.vm = .none) (q4 : ∀ k, k < N → cell.slots[(D.2 ci) k]? = some (vp_V fs k)) (e1 : H1[a]? = some (cell.setSlot ((D.2 ci) j) v)) (oq : ∀ q, q ≠ a → H1[q]? = H[q]?) : va_P D ot_cl (ws.set k0 (a, .inr (ci, fs.set j v))) H1 :=
  hP.set hD he ⟨_, hc, t_OB.to (V := updV (vp_V fs) j v) ⟨_, e1, q2, q3, t_set q4 hap hj v⟩ (fun i _ => vp_updV_set hl v i)⟩ oq
theorem tt_put (X : ot_X p s m args c g cc nL own) {idx k0 cn n j : Nat} {ji : Int} {rs : List (Option Nat)} {v : ot_V} {L2 : ot_L} {μ2 : ot_M} {rs2 : List (Option Nat)} (hf : ot_FI own idx cn j ji) (hC : ot_CI cn) (hk : L[k0]? = some (cn + 2, n, rs)) (hj : j < ot_nf cn) (hfin : ∀ q : vw_C, ot_cl[cn]? = some q → (q.2.1 j).2.2.2 = false)
    (hn : narrow (ot_tf cn j) (ot_v g.1.size v) = ot_v g.1.size v) (hfit : fits (ot_tf cn j) (ot_v g.1.size v) = true) (hL : L2 = L.set k0 (cn + 2, n, rs2)) (h1 : ot_f g.1.size (ot_tf cn j) (μ2 k0 ji) (rs2.getD j none) = ot_v g.1.size v) (h2 : ∀ i : Nat, i ≠ j → μ2 k0 (i : Int) = μ k0 (i : Int) ∧ rs2.getD i none = rs.getD i none) (h3 : ∀ q, q ≠ k0 → μ2 q = μ q) (hd : decode cc pc = .ok (.putfield idx, 3))
    (k : ot_T p l e R s m args below meth c g nL cells slots Q L2 μ2 (pc + 3) lv st) : ot_T p l e R s m args below meth c g nL cells slots Q L μ pc lv (v :: .inr k0 :: st) := by
  intro H locs ls hP hS hl
  obtain ⟨⟨C, T, N⟩, f1, f2, f3, f4, rfl⟩ := hf
  obtain ⟨⟨C', T', N'⟩, c1, c2, c3, c4⟩ := hC
  have ee : (C', T', N') = (C, T, N) := Option.some.inj (c1.symm.trans f1)
  cases ee
  simp only at f2 f3 f4 c2 c3 c4
  have hK := X.2.2.2.2.2.1.1
  have hts := X.2.2.2.2.1
  have hown := X.2.2.2.1
  have he := ot_w_at (g := g) (μ := μ) hk
  have hap := va_apart (own := own) hts f3 (ot_tf cn) c3 c4 hK f1
  obtain ⟨r, r1, cell, q1, q2, q3, q4⟩ := hP.1 k0 _ he
  have hr : r = (C, T, N) := Option.some.inj (r1.symm.trans f1)
  subst hr
  obtain ⟨hSl, hfc, kC, hkC, hkind⟩ := hK.1 cn _ f1
  obtain ⟨cf, kf, fi, f, hi, hsl⟩ := hSl j f2
  have hlay := hts _ (f3 _ (u_in_lay f2))
  unfold u_lay at hlay
  rw [if_neg (by rw [hfin _ f1]; decide)] at hlay
  have hst := (u_facts hfc hkC (u_lays hts f3 f2) hi).1
  have h6 := u_store hfc hkC hkind hlay hi (c3 j f2) hn hfit
  refine W.putK X.1 X.2.1 (f := f) ⟨hown, hts _ f4, ⟨_, _, _, hi⟩, hst⟩ (by rw [q2]; exact h6) q1 q3 (by rw [hsl]; exact k2_hasslot (q4 j f2)) rfl rfl hd fun H' e1 e2 e3 => ?_
  rw [hsl] at e1 ⊢
  have hP1 := ot_put hP.1 (ot_w_D g L μ) he f1 f2 (by rw [ot_fs_len]; exact hj) hap q2 q3 q4 e1 e3
  have hlt : k0 < L.length := (List.getElem?_eq_some_iff.mp hk).1
  rw [ot_fs_set (f' := μ2 k0) (rs' := rs2) hj h1 h2, show (.inr (cn, ot_fs g.1.size (μ2 k0) cn rs2) : va_E) = ot_c g (μ2 k0) (cn + 2, n, rs2) from rfl, ot_w_set hlt hL rfl h3] at hP1
  exact k H' _ ls (ot_keep hP hP1 (by rw [hL, List.length_set]) e2 e3) (hS.put e2 e3 ((ot_w_D g L μ).2 k0 _ he)) hl
theorem tt_putF (X : ot_X p s m args c g cc nL own) {idx k0 cn n j : Nat} {ji : Int} {rs : List (Option Nat)} {v : ot_V} {L2 : ot_L} {μ2 : ot_M} {rs2 : List (Option Nat)} (hin : meth.name = "<init>") (hf : ot_FI own idx cn j ji) (hC : ot_CI cn) (hk : L[k0]? = some (cn + 2, n, rs)) (hj : j < ot_nf cn) (hfin : ∀ q : vw_C, ot_cl[cn]? = some q → (q.2.1 j).2.2.2 = true ∧ (q.2.1 j).1 = own)
    (hn : narrow (ot_tf cn j) (ot_v g.1.size v) = ot_v g.1.size v) (hfit : fits (ot_tf cn j) (ot_v g.1.size v) = true) (hL : L2 = L.set k0 (cn + 2, n, rs2)) (h1 : ot_f g.1.size (ot_tf cn j) (μ2 k0 ji) (rs2.getD j none) = ot_v g.1.size v) (h2 : ∀ i : Nat, i ≠ j → μ2 k0 (i : Int) = μ k0 (i : Int) ∧ rs2.getD i none = rs.getD i none) (h3 : ∀ q, q ≠ k0 → μ2 q = μ q) (hd : decode cc pc = .ok (.putfield idx, 3))
    (k : ot_T p l e R s m args below meth c g nL cells slots Q L2 μ2 (pc + 3) lv st) : ot_T p l e R s m args below meth c g nL cells slots Q L μ pc lv (v :: .inr k0 :: st) := by
  intro H locs ls hP hS hl
  obtain ⟨⟨C, T, N⟩, f1, f2, f3, f4, rfl⟩ := hf
  obtain ⟨⟨C', T', N'⟩, c1, c2, c3, c4⟩ := hC
  have ee : (C', T', N') = (C, T, N) := Option.some.inj (c1.symm.trans f1)
  cases ee
  simp only at f2 f3 f4 c2 c3 c4
  have hK := X.2.2.2.2.2.1.1
  have hts := X.2.2.2.2.1
  have hown := X.2.2.2.1
  have he := ot_w_at (g := g) (μ := μ) hk
  have hap := va_apart (own := own) hts f3 (ot_tf cn) c3 c4 hK f1
  obtain ⟨r, r1, cell, q1, q2, q3, q4⟩ := hP.1 k0 _ he
  have hr : r = (C, T, N) := Option.some.inj (r1.symm.trans f1)
  subst hr
  obtain ⟨hSl, hfc, kC, hkC, hkind⟩ := hK.1 cn _ f1
  obtain ⟨cf, kf, fi, f, hi, hsl⟩ := hSl j f2
  have hlay := hts _ (f3 _ (u_in_lay f2))
  unfold u_lay at hlay
  rw [if_pos (hfin _ f1).1] at hlay
  have hst := (u_facts hfc hkC (u_lays hts f3 f2) hi).1
  have hcf : m.cls = cf := by
    obtain ⟨_, _, c', _, _, _, -, -, hf', -, -, -, hown2, -⟩ := Cond.laysFinal_spec hlay
    have e1 : c' = cf := by have := hi.symm.trans hf'; simp at this; exact this.1.symm
    have e2 : (T j).1 = own := (hfin _ f1).2
    rw [e2] at hown2
    rw [← e1]; exact Option.some.inj (hown.symm.trans hown2)
  have h6 := u_fits hfc hkC hkind (Or.inr hlay) hi (c3 j f2) hn hfit
  refine W.putFinK X.1 X.2.1 hown (hts _ f4) hi hst hcf hin (by rw [q2]; exact h6) q1 q3 (by rw [hsl]; exact k2_hasslot (q4 j f2)) rfl rfl hd fun H' e1 e2 e3 => ?_
  rw [hsl] at e1 ⊢
  have hP1 := ot_put hP.1 (ot_w_D g L μ) he f1 f2 (by rw [ot_fs_len]; exact hj) hap q2 q3 q4 e1 e3
  have hlt : k0 < L.length := (List.getElem?_eq_some_iff.mp hk).1
  rw [ot_fs_set (f' := μ2 k0) (rs' := rs2) hj h1 h2, show (.inr (cn, ot_fs g.1.size (μ2 k0) cn rs2) : va_E) = ot_c g (μ2 k0) (cn + 2, n, rs2) from rfl, ot_w_set hlt hL rfl h3] at hP1
  exact k H' _ ls (ot_keep hP hP1 (by rw [hL, List.length_set]) e2 e3) (hS.put e2 e3 ((ot_w_D g L μ).2 k0 _ he)) hl
theorem tt_puti (X : ot_X p s m args c g cc nL own) {idx k0 cn n j : Nat} {ji x : Int} {rs : List (Option Nat)} (hf : ot_FI own idx cn j ji) (hC : ot_CI cn) (hk : L[k0]? = some (cn + 2, n, rs)) (hj : j < ot_nf cn) (hfin : ∀ q : vw_C, ot_cl[cn]? = some q → (q.2.1 j).2.2.2 = false) (hty : ot_tf cn j = .int) (hd : decode cc pc = .ok (.putfield idx, 3))
    (k : ot_T p l e R s m args below meth c g nL cells slots Q L (ot_up μ k0 ji x) (pc + 3) lv st) : ot_T p l e R s m args below meth c g nL cells slots Q L μ pc lv (.inl x :: .inr k0 :: st) := by
  have hji : (j : Int) = ji := hf.choose_spec.2.2.2.2
  refine tt_put X (rs2 := rs) (μ2 := ot_up μ k0 ji x) hf hC hk hj hfin (by rw [hty]; rfl) (by rw [hty]; rfl) (ot_set_self hk) ?_ ?_ ?_ hd k
  · rw [hty]; simp [ot_f, ot_up, ot_v]
  · intro i hi
    have : (i : Int) ≠ ji := by omega
    simp [ot_up, this]
  · intro q hq
    funext z
    simp [ot_up, hq]
theorem tt_putz (X : ot_X p s m args c g cc nL own) {idx k0 cn n j : Nat} {ji x : Int} {rs : List (Option Nat)} (hf : ot_FI own idx cn j ji) (hC : ot_CI cn) (hk : L[k0]? = some (cn + 2, n, rs)) (hj : j < ot_nf cn) (hfin : ∀ q : vw_C, ot_cl[cn]? = some q → (q.2.1 j).2.2.2 = false) (hty : ot_tf cn j = .boolean) (hx : x = 0 ∨ x = 1) (hd : decode cc pc = .ok (.putfield idx, 3))
    (k : ot_T p l e R s m args below meth c g nL cells slots Q L (ot_up μ k0 ji x) (pc + 3) lv st) : ot_T p l e R s m args below meth c g nL cells slots Q L μ pc lv (.inl x :: .inr k0 :: st) := by
  have hji : (j : Int) = ji := hf.choose_spec.2.2.2.2
  refine tt_put X (rs2 := rs) (μ2 := ot_up μ k0 ji x) hf hC hk hj hfin (by rw [hty]; show narrow .boolean (ot_i x) = ot_i x; rcases hx with rfl | rfl <;> decide) (by rw [hty]; show fits .boolean (ot_i x) = true; rcases hx with rfl | rfl <;> decide) (ot_set_self hk) ?_ ?_ ?_ hd k
  · rw [hty]; simp [ot_f, ot_up, ot_v]
  · intro i hi
    have : (i : Int) ≠ ji := by omega
    simp [ot_up, this]
  · intro q hq
    funext z
    simp [ot_up, hq]

end OT

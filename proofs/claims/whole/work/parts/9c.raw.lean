/-! RAW VALUES: the same judgement over values, for texts that are constants -/
def ot_lgv (lv : List (Nat × Value)) (k : Nat) : Option Value := match lv with
  | [] => none
  | q :: t => if q.1 = k then some q.2 else ot_lgv t k
def ot_HV (nL : Nat) (lv : List (Nat × Value)) (ls : Array Slot) : Prop := ls.size = nL ∧ lv_wf ls ∧ ∀ k v, ot_lgv lv k = some v → v.category = 1 ∧ ls[k]? = some (.val v)
def ot_llv (nL : Nat) (lv : List (Nat × Value)) : List (Nat × Value) := (List.range nL).filterMap (fun k => (ot_lgv lv k).map (fun v => (k, v)))
theorem ot_HV.has {nL : Nat} {lv : List (Nat × Value)} {ls : Array Slot} (h : ot_HV nL lv ls) : lv_has ls nL (ot_llv nL lv) := by
  refine ⟨h.1, h.2.1, fun q hq => ?_⟩
  obtain ⟨k, -, hk⟩ := List.mem_filterMap.mp hq
  cases e : ot_lgv lv k with
  | none => rw [e] at hk; cases hk
  | some v =>
    rw [e] at hk
    cases hk
    exact (h.2.2 k v e).2
theorem ot_HV.put {nL i : Nat} {lv : List (Nat × Value)} {ls ls' : Array Slot} {x : Value} (hx : x.category = 1) (h : ot_HV nL lv ls) (h' : lv_has ls' nL ((i, x) :: (ot_llv nL lv).filter (fun q => !(q.1 == i) && !(q.1 + 1 == i && q.2.category == 2)))) : ot_HV nL ((i, x) :: lv) ls' := by
  refine ⟨h'.1, h'.2.1, fun k v e => ?_⟩
  unfold ot_lgv at e
  split at e
  · rename_i hk
    cases e
    have := h'.2.2 (i, x) List.mem_cons_self
    simp only at hk
    rw [← hk]
    exact ⟨hx, this⟩
  · rename_i hk
    simp only at hk
    have h0 := h.2.2 k v e
    have hlt : k < nL := by
      rw [← h.1]
      exact (Array.getElem?_eq_some_iff.mp h0.2).1
    refine ⟨h0.1, h'.2.2 (k, v) (List.mem_cons_of_mem _ (List.mem_filter.mpr ⟨List.mem_filterMap.mpr ⟨k, List.mem_range.mpr hlt, by rw [e]; rfl⟩, ?_⟩))⟩
    simp [h0.1, Ne.symm hk]
section OTS
variable {p : Program} {l : Launch} {e : Env} {R : Room} {s : State} {m : MethodId} {args : Array Value} {below : List Frame} {meth : Method} {c : Code} {g : ot_G} {nL cells slots : Nat} {Q : State → Prop} {cc : ByteArray} {own : String}
variable {L : ot_L} {μ : ot_M} {pc : Nat} {lv : List (Nat × Value)} {st : List Value}
def ot_TV (p : Program) (l : Launch) (e : Env) (R : Room) (s : State) (m : MethodId) (args : Array Value) (below : List Frame) (meth : Method) (c : Code) (g : ot_G) (nL cells slots : Nat) (Q : State → Prop) (L : ot_L) (μ : ot_M) (pc : Nat) (lv : List (Nat × Value)) (st : List Value) : Prop :=
  ∀ (H : Heap) (locs : List Loc) (ls : Array Slot), ot_P g L μ H → va_S (ot_A g) s.heap H locs → ot_HV nL lv ls → W p l e R s m args below meth c H locs cells slots Q (F0 m pc ls st)
def ot_lm (b : Nat) (lv : List (Nat × ot_V)) : List (Nat × Value) := lv.map (fun q => (q.1, ot_v b q.2))
theorem ot_lm_get (b : Nat) : ∀ (lv : List (Nat × ot_V)) (k : Nat), ot_lgv (ot_lm b lv) k = (ot_lg lv k).map (ot_v b)
  | [], _ => rfl
  | q :: t, k => by
    show (if q.1 = k then some (ot_v b q.2) else ot_lgv (ot_lm b t) k) = (if q.1 = k then some q.2 else ot_lg t k).map (ot_v b)
    split
    · rfl
    · exact ot_lm_get b t k
theorem tt_ofV {lw : List (Nat × ot_V)} {sw : List ot_V} (k : ot_TV p l e R s m args below meth c g nL cells slots Q L μ pc (ot_lm g.1.size lw) (sw.map (ot_v g.1.size))) : ot_T p l e R s m args below meth c g nL cells slots Q L μ pc lw sw := by
  intro H locs ls hP hS hl
  refine k H locs ls hP hS ⟨hl.1, hl.2.1, fun k v e => ?_⟩
  rw [ot_lm_get] at e
  cases q : ot_lg lw k with
  | none => rw [q] at e; cases e
  | some w =>
    rw [q] at e
    cases e
    exact ⟨ot_cat _ w, hl.2.2 k w q⟩
theorem tv_ofT {lw : List (Nat × ot_V)} {sw : List ot_V} (k : ot_T p l e R s m args below meth c g nL cells slots Q L μ pc lw sw) : ot_TV p l e R s m args below meth c g nL cells slots Q L μ pc (ot_lm g.1.size lw) (sw.map (ot_v g.1.size)) := by
  intro H locs ls hP hS hl
  refine k H locs ls hP hS ⟨hl.1, hl.2.1, fun k v e => ?_⟩
  exact (hl.2.2 k (ot_v g.1.size v) (by rw [ot_lm_get, e]; rfl)).2
theorem tv_top {x y : Int} (h : x = y) (k : ot_TV p l e R s m args below meth c g nL cells slots Q L μ pc lv (ot_i y :: st)) : ot_TV p l e R s m args below meth c g nL cells slots Q L μ pc lv (ot_i x :: st) := by rw [h]; exact k
def ot_subv (a : List (Nat × Value)) (lv : List (Nat × Value)) : Prop := match a with
  | [] => True
  | q :: t => ot_lgv lv q.1 = some q.2 ∧ ot_subv t lv
theorem ot_subv_get : ∀ {a lv : List (Nat × Value)}, ot_subv a lv → ∀ k v, ot_lgv a k = some v → ot_lgv lv k = some v
  | [], _, _, _, _, e => by cases e
  | q :: t, lv, h, k, v, e => by
    unfold ot_lgv at e
    split at e
    · rename_i hk
      cases e
      rw [← hk]; exact h.1
    · exact ot_subv_get h.2 k v e
theorem tv_loc (a : List (Nat × Value)) (hs : ot_subv a lv) (k : ot_TV p l e R s m args below meth c g nL cells slots Q L μ pc a st) : ot_TV p l e R s m args below meth c g nL cells slots Q L μ pc lv st :=
  fun H locs ls hP hS hl => k H locs ls hP hS ⟨hl.1, hl.2.1, fun k v e => hl.2.2 k v (ot_subv_get hs k v e)⟩
theorem tv_loop {α : Type} (meas : α → Nat) (inv : α → Prop) (lvf : α → List (Nat × Value)) (a0 : α) (h0 : inv a0) (body : ∀ a, inv a → (∀ b, inv b → meas b < meas a → ot_TV p l e R s m args below meth c g nL cells slots Q L μ pc (lvf b) st) → ot_TV p l e R s m args below meth c g nL cells slots Q L μ pc (lvf a) st) : ot_TV p l e R s m args below meth c g nL cells slots Q L μ pc (lvf a0) st := by
  have key : ∀ n a, meas a < n → inv a → ot_TV p l e R s m args below meth c g nL cells slots Q L μ pc (lvf a) st := by
    intro n
    induction n with
    | zero => intro a h; omega
    | succ n ih => intro a h hi; exact body a hi (fun b hb hm => ih b (by omega) hb)
  exact key _ a0 (Nat.lt_succ_self _) h0
theorem tv_iload_n (X : ot_X p s m args c g cc nL own) {k0 : Fin 4} {x : Int} (hi : ot_lgv lv (k0 : Nat) = some (ot_i x)) (hd : decode cc pc = .ok (.iload_n k0, 1))
    (k : ot_TV p l e R s m args below meth c g nL cells slots Q L μ (pc + 1) lv (ot_i x :: st)) : ot_TV p l e R s m args below meth c g nL cells slots Q L μ pc lv st := by
  intro H locs ls hP hS hl
  exact lv_iload_n X.1 X.2.1 hd rfl (hl.2.2 _ _ hi).2 (k H locs ls hP hS hl)
theorem tv_iload (X : ot_X p s m args c g cc nL own) {i : Nat} {x : Int} (hi : ot_lgv lv i = some (ot_i x)) (hd : decode cc pc = .ok (.iload i, 2))
    (k : ot_TV p l e R s m args below meth c g nL cells slots Q L μ (pc + 2) lv (ot_i x :: st)) : ot_TV p l e R s m args below meth c g nL cells slots Q L μ pc lv st := by
  intro H locs ls hP hS hl
  exact lv_iload X.1 X.2.1 hd (hl.2.2 _ _ hi).2 (k H locs ls hP hS hl)
theorem tv_aload_n (X : ot_X p s m args c g cc nL own) {k0 : Fin 4} {x : Nat} (hi : ot_lgv lv (k0 : Nat) = some (.ref x)) (hd : decode cc pc = .ok (.aload_n k0, 1))
    (k : ot_TV p l e R s m args below meth c g nL cells slots Q L μ (pc + 1) lv (.ref x :: st)) : ot_TV p l e R s m args below meth c g nL cells slots Q L μ pc lv st := by
  intro H locs ls hP hS hl
  exact lv_aload_n X.1 X.2.1 hd rfl (hl.2.2 _ _ hi).2 (k H locs ls hP hS hl)
theorem tv_istore_n (X : ot_X p s m args c g cc nL own) {k0 : Fin 4} {x : Int} (hd : decode cc pc = .ok (.istore_n k0, 1)) (hn : (k0 : Nat) < nL)
    (k : ot_TV p l e R s m args below meth c g nL cells slots Q L μ (pc + 1) (((k0 : Nat), ot_i x) :: lv) st) : ot_TV p l e R s m args below meth c g nL cells slots Q L μ pc lv (ot_i x :: st) := by
  intro H locs ls hP hS hl
  exact lv_istore_n X.1 X.2.1 hd rfl hl.has hn rfl (fun ls2 h2 => k H locs ls2 hP hS (ot_HV.put rfl hl h2))
theorem tv_istore (X : ot_X p s m args c g cc nL own) {i : Nat} {x : Int} (hd : decode cc pc = .ok (.istore i, 2)) (hn : i < nL)
    (k : ot_TV p l e R s m args below meth c g nL cells slots Q L μ (pc + 2) ((i, ot_i x) :: lv) st) : ot_TV p l e R s m args below meth c g nL cells slots Q L μ pc lv (ot_i x :: st) := by
  intro H locs ls hP hS hl
  exact lv_istore X.1 X.2.1 hd hl.has hn rfl (fun ls2 h2 => k H locs ls2 hP hS (ot_HV.put rfl hl h2))
theorem tv_iinc (X : ot_X p s m args c g cc nL own) {i : Nat} {x d : Int} (hd : decode cc pc = .ok (.iinc i d, 3)) (hi : ot_lgv lv i = some (ot_i x)) (hn : i < nL)
    (k : ot_TV p l e R s m args below meth c g nL cells slots Q L μ (pc + 3) ((i, ot_i (x + d)) :: lv) st) : ot_TV p l e R s m args below meth c g nL cells slots Q L μ pc lv st := by
  intro H locs ls hP hS hl
  have hm : (i, ot_i x) ∈ ot_llv nL lv := List.mem_filterMap.mpr ⟨i, List.mem_range.mpr hn, by rw [hi]; rfl⟩
  obtain ⟨j, hj⟩ := List.getElem?_of_mem hm
  refine lv_iinc (v := Int32.ofInt (x + d)) X.1 X.2.1 hd hl.has hj (Int32.ofInt_add x d).symm hn rfl (fun ls2 h2 => k H locs ls2 hP hS (ot_HV.put (x := ot_i (x + d)) rfl hl h2))
theorem tv_iconst (X : ot_X p s m args c g cc nL own) {n : Int} (hd : decode cc pc = .ok (.iconst n, 1))
    (k : ot_TV p l e R s m args below meth c g nL cells slots Q L μ (pc + 1) lv (ot_i n :: st)) : ot_TV p l e R s m args below meth c g nL cells slots Q L μ pc lv st := by
  intro H locs ls hP hS hl
  exact lv_iconst X.1 X.2.1 hd rfl (k H locs ls hP hS hl)
theorem tv_bipush (X : ot_X p s m args c g cc nL own) {n : Int} (hv : (Int8.ofInt n).toInt32 = Int32.ofInt n) (hd : decode cc pc = .ok (.bipush n, 2))
    (k : ot_TV p l e R s m args below meth c g nL cells slots Q L μ (pc + 2) lv (ot_i n :: st)) : ot_TV p l e R s m args below meth c g nL cells slots Q L μ pc lv st := by
  intro H locs ls hP hS hl
  exact lv_bipush X.1 X.2.1 hd hv (k H locs ls hP hS hl)
theorem tv_sipush (X : ot_X p s m args c g cc nL own) {n : Int} (hv : (Int16.ofInt n).toInt32 = Int32.ofInt n) (hd : decode cc pc = .ok (.sipush n, 3))
    (k : ot_TV p l e R s m args below meth c g nL cells slots Q L μ (pc + 3) lv (ot_i n :: st)) : ot_TV p l e R s m args below meth c g nL cells slots Q L μ pc lv st := by
  intro H locs ls hP hS hl
  exact lv_sipush X.1 X.2.1 hd hv (k H locs ls hP hS hl)
theorem tv_iadd (X : ot_X p s m args c g cc nL own) {x y : Int} (hd : decode cc pc = .ok (.iadd, 1))
    (k : ot_TV p l e R s m args below meth c g nL cells slots Q L μ (pc + 1) lv (ot_i (x + y) :: st)) : ot_TV p l e R s m args below meth c g nL cells slots Q L μ pc lv (ot_i y :: ot_i x :: st) := by
  intro H locs ls hP hS hl
  refine lv_iadd X.1 X.2.1 hd ?_
  have h := k H locs ls hP hS hl
  have e1 : (ot_i (x + y)) = .int (Int32.ofInt x + Int32.ofInt y) := by show Value.int _ = _; rw [Int32.ofInt_add]
  rw [e1] at h
  exact h
theorem tv_isub (X : ot_X p s m args c g cc nL own) {x y : Int} (hd : decode cc pc = .ok (.isub, 1))
    (k : ot_TV p l e R s m args below meth c g nL cells slots Q L μ (pc + 1) lv (ot_i (x - y) :: st)) : ot_TV p l e R s m args below meth c g nL cells slots Q L μ pc lv (ot_i y :: ot_i x :: st) := by
  intro H locs ls hP hS hl
  refine lv_isub X.1 X.2.1 hd ?_
  have h := k H locs ls hP hS hl
  have e1 : (ot_i (x - y)) = .int (Int32.ofInt x - Int32.ofInt y) := by show Value.int _ = _; rw [Int32.ofInt_sub]
  rw [e1] at h
  exact h
theorem tv_imul (X : ot_X p s m args c g cc nL own) {x y : Int} (hd : decode cc pc = .ok (.imul, 1))
    (k : ot_TV p l e R s m args below meth c g nL cells slots Q L μ (pc + 1) lv (ot_i (x * y) :: st)) : ot_TV p l e R s m args below meth c g nL cells slots Q L μ pc lv (ot_i y :: ot_i x :: st) := by
  intro H locs ls hP hS hl
  refine lv_imul X.1 X.2.1 hd ?_
  have h := k H locs ls hP hS hl
  have e1 : (ot_i (x * y)) = .int (Int32.ofInt x * Int32.ofInt y) := by show Value.int _ = _; rw [Int32.ofInt_mul]
  rw [e1] at h
  exact h
theorem tv_iand (X : ot_X p s m args c g cc nL own) {x y : Int} (hd : decode cc pc = .ok (.iand, 1))
    (k : ot_TV p l e R s m args below meth c g nL cells slots Q L μ (pc + 1) lv (ot_i (ot_and x y) :: st)) : ot_TV p l e R s m args below meth c g nL cells slots Q L μ pc lv (ot_i y :: ot_i x :: st) := by
  intro H locs ls hP hS hl
  refine lv_iand X.1 X.2.1 hd ?_
  have h := k H locs ls hP hS hl
  have e1 : (ot_i (ot_and x y)) = .int (Int32.ofInt x &&& Int32.ofInt y) := by show Value.int (Int32.ofInt _) = _; rw [ot_and, ot_asI]
  rw [e1] at h
  exact h
theorem tv_ishr (X : ot_X p s m args c g cc nL own) {x y : Int} (hd : decode cc pc = .ok (.ishr, 1))
    (k : ot_TV p l e R s m args below meth c g nL cells slots Q L μ (pc + 1) lv (ot_i (ot_shr x y) :: st)) : ot_TV p l e R s m args below meth c g nL cells slots Q L μ pc lv (ot_i y :: ot_i x :: st) := by
  intro H locs ls hP hS hl
  refine lv_ishr X.1 X.2.1 hd ?_
  have h := k H locs ls hP hS hl
  have e1 : (ot_i (ot_shr x y)) = .int (Int32.ofInt x >>> (Int32.ofInt y &&& 31)) := by show Value.int (Int32.ofInt _) = _; rw [ot_shr, ot_asI]
  rw [e1] at h
  exact h
theorem tv_icmp_eq (X : ot_X p s m args c g cc nL own) {x y off : Int} (tgt : Nat) (hr : -2147483648 ≤ x ∧ x ≤ 2147483647 ∧ -2147483648 ≤ y ∧ y ≤ 2147483647) (hd : decode cc pc = .ok (.if_icmp .eq off, 3)) (ht : (pc : Int) + off = (tgt : Int))
    (kt : x = y → ot_TV p l e R s m args below meth c g nL cells slots Q L μ tgt lv st) (kf : ¬ (x = y) → ot_TV p l e R s m args below meth c g nL cells slots Q L μ (pc + 3) lv st) : ot_TV p l e R s m args below meth c g nL cells slots Q L μ pc lv (ot_i y :: ot_i x :: st) := by
  intro H locs ls hP hS hl
  refine lv_icmp_eq X.1 X.2.1 hd ht (fun q => kt ?_ H locs ls hP hS hl) (fun q => kf ?_ H locs ls hP hS hl)
  · first | exact (ot_eq hr).mp q | exact fun z => q ((ot_eq hr).mpr z)
  · first | exact fun z => q ((ot_eq hr).mpr z) | exact fun z => z ((ot_eq hr).mp q)
theorem tv_icmp_ne (X : ot_X p s m args c g cc nL own) {x y off : Int} (tgt : Nat) (hr : -2147483648 ≤ x ∧ x ≤ 2147483647 ∧ -2147483648 ≤ y ∧ y ≤ 2147483647) (hd : decode cc pc = .ok (.if_icmp .ne off, 3)) (ht : (pc : Int) + off = (tgt : Int))
    (kt : x ≠ y → ot_TV p l e R s m args below meth c g nL cells slots Q L μ tgt lv st) (kf : ¬ (x ≠ y) → ot_TV p l e R s m args below meth c g nL cells slots Q L μ (pc + 3) lv st) : ot_TV p l e R s m args below meth c g nL cells slots Q L μ pc lv (ot_i y :: ot_i x :: st) := by
  intro H locs ls hP hS hl
  refine lv_icmp_ne X.1 X.2.1 hd ht (fun q => kt ?_ H locs ls hP hS hl) (fun q => kf ?_ H locs ls hP hS hl)
  · first | exact (ot_eq hr).mp q | exact fun z => q ((ot_eq hr).mpr z)
  · first | exact fun z => q ((ot_eq hr).mpr z) | exact fun z => z ((ot_eq hr).mp q)
theorem tv_icmp_lt (X : ot_X p s m args c g cc nL own) {x y off : Int} (tgt : Nat) (hr : -2147483648 ≤ x ∧ x ≤ 2147483647 ∧ -2147483648 ≤ y ∧ y ≤ 2147483647) (hd : decode cc pc = .ok (.if_icmp .lt off, 3)) (ht : (pc : Int) + off = (tgt : Int))
    (kt : x < y → ot_TV p l e R s m args below meth c g nL cells slots Q L μ tgt lv st) (kf : ¬ (x < y) → ot_TV p l e R s m args below meth c g nL cells slots Q L μ (pc + 3) lv st) : ot_TV p l e R s m args below meth c g nL cells slots Q L μ pc lv (ot_i y :: ot_i x :: st) := by
  intro H locs ls hP hS hl
  refine lv_icmp_lt X.1 X.2.1 hd ht (fun q => kt ?_ H locs ls hP hS hl) (fun q => kf ?_ H locs ls hP hS hl)
  · first | exact (ot_lt hr).mp q | exact fun z => q ((ot_lt hr).mpr z)
  · first | exact fun z => q ((ot_lt hr).mpr z) | exact fun z => z ((ot_lt hr).mp q)
theorem tv_icmp_ge (X : ot_X p s m args c g cc nL own) {x y off : Int} (tgt : Nat) (hr : -2147483648 ≤ x ∧ x ≤ 2147483647 ∧ -2147483648 ≤ y ∧ y ≤ 2147483647) (hd : decode cc pc = .ok (.if_icmp .ge off, 3)) (ht : (pc : Int) + off = (tgt : Int))
    (kt : y ≤ x → ot_TV p l e R s m args below meth c g nL cells slots Q L μ tgt lv st) (kf : ¬ (y ≤ x) → ot_TV p l e R s m args below meth c g nL cells slots Q L μ (pc + 3) lv st) : ot_TV p l e R s m args below meth c g nL cells slots Q L μ pc lv (ot_i y :: ot_i x :: st) := by
  intro H locs ls hP hS hl
  refine lv_icmp_ge X.1 X.2.1 hd ht (fun q => kt ?_ H locs ls hP hS hl) (fun q => kf ?_ H locs ls hP hS hl)
  · first | exact (ot_le ⟨hr.2.2.1, hr.2.2.2, hr.1, hr.2.1⟩).mp q | exact fun z => q ((ot_le ⟨hr.2.2.1, hr.2.2.2, hr.1, hr.2.1⟩).mpr z)
  · first | exact fun z => q ((ot_le ⟨hr.2.2.1, hr.2.2.2, hr.1, hr.2.1⟩).mpr z) | exact fun z => z ((ot_le ⟨hr.2.2.1, hr.2.2.2, hr.1, hr.2.1⟩).mp q)
theorem tv_icmp_gt (X : ot_X p s m args c g cc nL own) {x y off : Int} (tgt : Nat) (hr : -2147483648 ≤ x ∧ x ≤ 2147483647 ∧ -2147483648 ≤ y ∧ y ≤ 2147483647) (hd : decode cc pc = .ok (.if_icmp .gt off, 3)) (ht : (pc : Int) + off = (tgt : Int))
    (kt : y < x → ot_TV p l e R s m args below meth c g nL cells slots Q L μ tgt lv st) (kf : ¬ (y < x) → ot_TV p l e R s m args below meth c g nL cells slots Q L μ (pc + 3) lv st) : ot_TV p l e R s m args below meth c g nL cells slots Q L μ pc lv (ot_i y :: ot_i x :: st) := by
  intro H locs ls hP hS hl
  refine lv_icmp_gt X.1 X.2.1 hd ht (fun q => kt ?_ H locs ls hP hS hl) (fun q => kf ?_ H locs ls hP hS hl)
  · first | exact (ot_lt ⟨hr.2.2.1, hr.2.2.2, hr.1, hr.2.1⟩).mp q | exact fun z => q ((ot_lt ⟨hr.2.2.1, hr.2.2.2, hr.1, hr.2.1⟩).mpr z)
  · first | exact fun z => q ((ot_lt ⟨hr.2.2.1, hr.2.2.2, hr.1, hr.2.1⟩).mpr z) | exact fun z => z ((ot_lt ⟨hr.2.2.1, hr.2.2.2, hr.1, hr.2.1⟩).mp q)
theorem tv_icmp_le (X : ot_X p s m args c g cc nL own) {x y off : Int} (tgt : Nat) (hr : -2147483648 ≤ x ∧ x ≤ 2147483647 ∧ -2147483648 ≤ y ∧ y ≤ 2147483647) (hd : decode cc pc = .ok (.if_icmp .le off, 3)) (ht : (pc : Int) + off = (tgt : Int))
    (kt : x ≤ y → ot_TV p l e R s m args below meth c g nL cells slots Q L μ tgt lv st) (kf : ¬ (x ≤ y) → ot_TV p l e R s m args below meth c g nL cells slots Q L μ (pc + 3) lv st) : ot_TV p l e R s m args below meth c g nL cells slots Q L μ pc lv (ot_i y :: ot_i x :: st) := by
  intro H locs ls hP hS hl
  refine lv_icmp_le X.1 X.2.1 hd ht (fun q => kt ?_ H locs ls hP hS hl) (fun q => kf ?_ H locs ls hP hS hl)
  · first | exact (ot_le hr).mp q | exact fun z => q ((ot_le hr).mpr z)
  · first | exact fun z => q ((ot_le hr).mpr z) | exact fun z => z ((ot_le hr).mp q)
theorem tv_if_eq (X : ot_X p s m args c g cc nL own) {x off : Int} (tgt : Nat) (hr : -2147483648 ≤ x ∧ x ≤ 2147483647) (hd : decode cc pc = .ok (.ifCond .eq off, 3)) (ht : (pc : Int) + off = (tgt : Int))
    (kt : x = 0 → ot_TV p l e R s m args below meth c g nL cells slots Q L μ tgt lv st) (kf : ¬ (x = 0) → ot_TV p l e R s m args below meth c g nL cells slots Q L μ (pc + 3) lv st) : ot_TV p l e R s m args below meth c g nL cells slots Q L μ pc lv (ot_i x :: st) := by
  intro H locs ls hP hS hl
  have h2 : -2147483648 ≤ x ∧ x ≤ 2147483647 ∧ -2147483648 ≤ (0 : Int) ∧ (0 : Int) ≤ 2147483647 := ⟨hr.1, hr.2, by omega, by omega⟩
  have h3 : -2147483648 ≤ (0 : Int) ∧ (0 : Int) ≤ 2147483647 ∧ -2147483648 ≤ x ∧ x ≤ 2147483647 := ⟨by omega, by omega, hr.1, hr.2⟩
  refine lv_if_eq X.1 X.2.1 hd ht (fun q => kt ?_ H locs ls hP hS hl) (fun q => kf ?_ H locs ls hP hS hl)
  · first | exact (ot_eq h2).mp q | exact (ot_eq h3).mp q | exact fun z => q ((ot_eq h2).mpr z)
  · first | exact fun z => q ((ot_eq h2).mpr z) | exact fun z => q ((ot_eq h3).mpr z) | exact fun z => z ((ot_eq h2).mp q)
theorem tv_if_ne (X : ot_X p s m args c g cc nL own) {x off : Int} (tgt : Nat) (hr : -2147483648 ≤ x ∧ x ≤ 2147483647) (hd : decode cc pc = .ok (.ifCond .ne off, 3)) (ht : (pc : Int) + off = (tgt : Int))
    (kt : x ≠ 0 → ot_TV p l e R s m args below meth c g nL cells slots Q L μ tgt lv st) (kf : ¬ (x ≠ 0) → ot_TV p l e R s m args below meth c g nL cells slots Q L μ (pc + 3) lv st) : ot_TV p l e R s m args below meth c g nL cells slots Q L μ pc lv (ot_i x :: st) := by
  intro H locs ls hP hS hl
  have h2 : -2147483648 ≤ x ∧ x ≤ 2147483647 ∧ -2147483648 ≤ (0 : Int) ∧ (0 : Int) ≤ 2147483647 := ⟨hr.1, hr.2, by omega, by omega⟩
  have h3 : -2147483648 ≤ (0 : Int) ∧ (0 : Int) ≤ 2147483647 ∧ -2147483648 ≤ x ∧ x ≤ 2147483647 := ⟨by omega, by omega, hr.1, hr.2⟩
  refine lv_if_ne X.1 X.2.1 hd ht (fun q => kt ?_ H locs ls hP hS hl) (fun q => kf ?_ H locs ls hP hS hl)
  · first | exact (ot_eq h2).mp q | exact (ot_eq h3).mp q | exact fun z => q ((ot_eq h2).mpr z)
  · first | exact fun z => q ((ot_eq h2).mpr z) | exact fun z => q ((ot_eq h3).mpr z) | exact fun z => z ((ot_eq h2).mp q)
theorem tv_if_lt (X : ot_X p s m args c g cc nL own) {x off : Int} (tgt : Nat) (hr : -2147483648 ≤ x ∧ x ≤ 2147483647) (hd : decode cc pc = .ok (.ifCond .lt off, 3)) (ht : (pc : Int) + off = (tgt : Int))
    (kt : x < 0 → ot_TV p l e R s m args below meth c g nL cells slots Q L μ tgt lv st) (kf : ¬ (x < 0) → ot_TV p l e R s m args below meth c g nL cells slots Q L μ (pc + 3) lv st) : ot_TV p l e R s m args below meth c g nL cells slots Q L μ pc lv (ot_i x :: st) := by
  intro H locs ls hP hS hl
  have h2 : -2147483648 ≤ x ∧ x ≤ 2147483647 ∧ -2147483648 ≤ (0 : Int) ∧ (0 : Int) ≤ 2147483647 := ⟨hr.1, hr.2, by omega, by omega⟩
  have h3 : -2147483648 ≤ (0 : Int) ∧ (0 : Int) ≤ 2147483647 ∧ -2147483648 ≤ x ∧ x ≤ 2147483647 := ⟨by omega, by omega, hr.1, hr.2⟩
  refine lv_if_lt X.1 X.2.1 hd ht (fun q => kt ?_ H locs ls hP hS hl) (fun q => kf ?_ H locs ls hP hS hl)
  · first | exact (ot_lt h2).mp q | exact (ot_lt h3).mp q | exact fun z => q ((ot_lt h2).mpr z)
  · first | exact fun z => q ((ot_lt h2).mpr z) | exact fun z => q ((ot_lt h3).mpr z) | exact fun z => z ((ot_lt h2).mp q)
theorem tv_if_ge (X : ot_X p s m args c g cc nL own) {x off : Int} (tgt : Nat) (hr : -2147483648 ≤ x ∧ x ≤ 2147483647) (hd : decode cc pc = .ok (.ifCond .ge off, 3)) (ht : (pc : Int) + off = (tgt : Int))
    (kt : 0 ≤ x → ot_TV p l e R s m args below meth c g nL cells slots Q L μ tgt lv st) (kf : ¬ (0 ≤ x) → ot_TV p l e R s m args below meth c g nL cells slots Q L μ (pc + 3) lv st) : ot_TV p l e R s m args below meth c g nL cells slots Q L μ pc lv (ot_i x :: st) := by
  intro H locs ls hP hS hl
  have h2 : -2147483648 ≤ x ∧ x ≤ 2147483647 ∧ -2147483648 ≤ (0 : Int) ∧ (0 : Int) ≤ 2147483647 := ⟨hr.1, hr.2, by omega, by omega⟩
  have h3 : -2147483648 ≤ (0 : Int) ∧ (0 : Int) ≤ 2147483647 ∧ -2147483648 ≤ x ∧ x ≤ 2147483647 := ⟨by omega, by omega, hr.1, hr.2⟩
  refine lv_if_ge X.1 X.2.1 hd ht (fun q => kt ?_ H locs ls hP hS hl) (fun q => kf ?_ H locs ls hP hS hl)
  · first | exact (ot_le h2).mp q | exact (ot_le h3).mp q | exact fun z => q ((ot_le h2).mpr z)
  · first | exact fun z => q ((ot_le h2).mpr z) | exact fun z => q ((ot_le h3).mpr z) | exact fun z => z ((ot_le h2).mp q)
theorem tv_goto (X : ot_X p s m args c g cc nL own) {off : Int} (tgt : Nat) (hd : decode cc pc = .ok (.goto off, 3)) (ht : (pc : Int) + off = (tgt : Int))
    (k : ot_TV p l e R s m args below meth c g nL cells slots Q L μ tgt lv st) : ot_TV p l e R s m args below meth c g nL cells slots Q L μ pc lv st := by
  intro H locs ls hP hS hl
  exact lv_goto X.1 X.2.1 hd ht (k H locs ls hP hS hl)
theorem tv_pop (X : ot_X p s m args c g cc nL own) {v : Value} (hv : v.category = 1) (hd : decode cc pc = .ok (.pop, 1))
    (k : ot_TV p l e R s m args below meth c g nL cells slots Q L μ (pc + 1) lv st) : ot_TV p l e R s m args below meth c g nL cells slots Q L μ pc lv (v :: st) := by
  intro H locs ls hP hS hl
  exact lv_pop X.1 X.2.1 hd hv (k H locs ls hP hS hl)
theorem tv_i2c (X : ot_X p s m args c g cc nL own) {x y : Int} (hv : ((Int32.ofInt x).toUInt32 % 65536).toInt32 = Int32.ofInt y) (hd : decode cc pc = .ok (.i2c, 1))
    (k : ot_TV p l e R s m args below meth c g nL cells slots Q L μ (pc + 1) lv (ot_i y :: st)) : ot_TV p l e R s m args below meth c g nL cells slots Q L μ pc lv (ot_i x :: st) := by
  intro H locs ls hP hS hl
  exact lv_i2c X.1 X.2.1 hd hv (k H locs ls hP hS hl)
theorem tv_i2b (X : ot_X p s m args c g cc nL own) {x y : Int} (hv : (Int32.ofInt x).toInt8.toInt32 = Int32.ofInt y) (hd : decode cc pc = .ok (.i2b, 1))
    (k : ot_TV p l e R s m args below meth c g nL cells slots Q L μ (pc + 1) lv (ot_i y :: st)) : ot_TV p l e R s m args below meth c g nL cells slots Q L μ pc lv (ot_i x :: st) := by
  intro H locs ls hP hS hl
  exact lv_i2b X.1 X.2.1 hd hv (k H locs ls hP hS hl)
end OTS

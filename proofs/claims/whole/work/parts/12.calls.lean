/-! CONTRACTS over the ledger -/
def ot_rm (d mc ms : Nat) : Room := { frames := d, cells := mc, slots := ms, locals := 40 * d }
def ot_Q (g : ot_G) (Pf : Option Int → ot_L → ot_M → Prop) : Array Value → State → Outcome → State → Prop := fun _ st oc t => (∃ (r : Option Int) (L : ot_L) (μ : ot_M), oc = .returned (r.map ot_i) ∧ Pf r L μ ∧ ot_P g L μ t.heap) ∧ va_F (ot_A g) st t
def ot_B (g : ot_G) (L : ot_L) (μ : ot_M) (U : State) : Prop := ot_P g L μ U.heap ∧ ot_U g U ∧ ot_J g
def ot_C (l : Launch) (g : ot_G) (y : MethodName) (cc : ByteArray) (n : Nat) (ret : Option FieldType) (d mc ms : Nat) (as : List ot_V) (L : ot_L) (μ : ot_M) (Pf : Option Int → ot_L → ot_M → Prop) : Prop :=
  Met l y (.code y cc n ret :: ot_ws) (ot_rm d mc ms) (va_Pc (as.map (ot_v g.1.size)) (ot_B g L μ)) (ot_Q g Pf) mc ms (ot_A g)
def ot_pi (post : Int → ot_L → ot_M → Prop) : Option Int → ot_L → ot_M → Prop := fun r L μ => ∃ z, r = some z ∧ post z L μ
def ot_pv (post : ot_L → ot_M → Prop) : Option Int → ot_L → ot_M → Prop := fun r L μ => r = none ∧ post L μ
def ot_la (i : Nat) (as : List ot_V) : List (Nat × ot_V) := match as with
  | [] => []
  | a :: t => (i, a) :: ot_la (i + 1) t
theorem ot_la_args (b : Nat) : ∀ (as : List ot_V) (i : Nat), lv_args i (as.map (ot_v b)) = (ot_la i as).map (fun q => (q.1, ot_v b q.2))
  | [], _ => rfl
  | a :: t, i => by
    show (i, ot_v b a) :: lv_args _ _ = _
    rw [if_neg (by rw [ot_cat]; decide), ot_la_args b t (i + 1)]
    rfl
theorem ot_sl_len (b : Nat) : ∀ (as : List ot_V), (lg_sl (as.map (ot_v b))).length = as.length
  | [] => rfl
  | a :: t => by
    show (List.flatMap _ _).length = _
    rw [List.map_cons, List.flatMap_cons, if_neg (by rw [ot_cat]; decide)]
    have := ot_sl_len b t
    unfold lg_sl at this
    simp [this]
theorem ot_lg_mem : ∀ {lv : List (Nat × ot_V)} {k : Nat} {v : ot_V}, ot_lg lv k = some v → (k, v) ∈ lv
  | [], _, _, e => by cases e
  | q :: t, k, v, e => by
    unfold ot_lg at e
    split at e
    · rename_i hk
      cases e
      rw [← hk]
      exact List.mem_cons_self
    · exact List.mem_cons_of_mem _ (ot_lg_mem e)
theorem ot_enter {l : Launch} {g : ot_G} {y : MethodName} {cc : ByteArray} {n : Nat} {ret : Option FieldType} {d mc ms : Nat} {as : List ot_V} {L : ot_L} {μ : ot_M} {Pf : Option Int → ot_L → ot_M → Prop} (hy : plainName y.cls = true) (hn : as.length ≤ n)
    (body : ∀ (p : Program) (e : Env) (s : State) (m : MethodId) (args : Array Value) (below : List Frame) (meth : Method) (c : Code), ot_X p s m args c g cc n y.cls → meth.sig.returnType = ret ∧ meth.locks = false ∧ meth.name = y.name ∧ s.heap.size = g.1.size + L.length →
      ot_T p l e (ot_rm d mc ms) s m args below meth c g n 0 0 (MQ below (ot_Q g Pf) args s mc ms (ot_A g)) L μ 0 (ot_la 0 as) []) : ot_C l g y cc n ret d mc ms as L μ Pf := by
  refine Met.ofW (cc := cc) (maxL := n) (ret := ret) hy rfl ?_
  intro p e s m args below meth c s₁ B hml hv
  obtain ⟨rfl, hP, hU, hJ⟩ := hv
  have hts := atoms_spec (ws := (.code y cc n ret :: ot_ws)) B.pre
  have hown : s.vm.findClass y.cls = some m.cls := findClass_of_methodNamed B.named
  have hX : ot_X p s m (as.map (ot_v g.1.size)).toArray c g cc n y.cls := ⟨B.exec, B.bytes, hml, hown, fun w h => hts w (List.mem_cons_of_mem _ h), hU, by rw [hP.2.1]; exact Nat.le_add_right _ _, hJ⟩
  rw [lg_entry_eq]
  have hl := lv_entry (as.map (ot_v g.1.size)) (n := n) (by rw [ot_sl_len]; exact hn)
  refine body p e s m _ below meth c hX ⟨B.returns, B.notSynchronized, (name_of_methodNamed B.named B.method).1, hP.2.1⟩ s.heap [] _ hP va_S.rf ⟨hl.1, hl.2.1, fun k v e => ?_⟩
  have h := hl.2.2 (k, ot_v g.1.size v)
  rw [ot_la_args] at h
  exact h (List.mem_map.mpr ⟨(k, v), ot_lg_mem e, rfl⟩)
theorem ot_enterF {l : Launch} {g : ot_G} {y : MethodName} {cc : ByteArray} {n : Nat} {ret : Option FieldType} {d mc ms : Nat} {as : List ot_V} {L : ot_L} {μ : ot_M} {Pf : Option Int → ot_L → ot_M → Prop} (hy : plainFor y = true) (hn : as.length ≤ n)
    (body : ∀ (p : Program) (e : Env) (s : State) (m : MethodId) (args : Array Value) (below : List Frame) (meth : Method) (c : Code), ot_X p s m args c g cc n y.cls → meth.sig.returnType = ret ∧ meth.locks = false ∧ meth.name = y.name ∧ s.heap.size = g.1.size + L.length →
      ot_T p l e (ot_rm d mc ms) s m args below meth c g n 0 0 (MQ below (ot_Q g Pf) args s mc ms (ot_A g)) L μ 0 (ot_la 0 as) []) : ot_C l g y cc n ret d mc ms as L μ Pf := by
  refine va_MetF (cc := cc) (maxL := n) (ret := ret) hy rfl ?_
  intro p e s m args below meth c s₁ B hml hv
  obtain ⟨rfl, hP, hU, hJ⟩ := hv
  have hts := atoms_spec (ws := (.code y cc n ret :: ot_ws)) B.pre
  have hown : s.vm.findClass y.cls = some m.cls := findClass_of_methodNamed B.named
  have hX : ot_X p s m (as.map (ot_v g.1.size)).toArray c g cc n y.cls := ⟨B.exec, B.bytes, hml, hown, fun w h => hts w (List.mem_cons_of_mem _ h), hU, by rw [hP.2.1]; exact Nat.le_add_right _ _, hJ⟩
  rw [lg_entry_eq]
  have hl := lv_entry (as.map (ot_v g.1.size)) (n := n) (by rw [ot_sl_len]; exact hn)
  refine body p e s m _ below meth c hX ⟨B.returns, B.notSynchronized, (name_of_methodNamed B.named B.method).1, hP.2.1⟩ s.heap [] _ hP va_S.rf ⟨hl.1, hl.2.1, fun k v e => ?_⟩
  have h := hl.2.2 (k, ot_v g.1.size v)
  rw [ot_la_args] at h
  exact h (List.mem_map.mpr ⟨(k, v), ot_lg_mem e, rfl⟩)
section OT3
variable {p : Program} {l : Launch} {e : Env} {R : Room} {s : State} {m : MethodId} {args : Array Value} {below : List Frame} {meth : Method} {c : Code} {g : ot_G} {nL cells slots mc ms : Nat} {Q : State → Prop} {cc : ByteArray} {own : String}
variable {L : ot_L} {μ : ot_M} {pc : Nat} {lv : List (Nat × ot_V)} {st : List ot_V} {Pf : Option Int → ot_L → ot_M → Prop} {post : Int → ot_L → ot_M → Prop} {postv : ot_L → ot_M → Prop}
theorem tt_iret (X : ot_X p s m args c g cc nL own) (hr : meth.sig.returnType = some .int ∧ meth.locks = false) {x : Int} (hc : cells ≤ mc) (hs : slots ≤ ms) (hd : decode cc pc = .ok (.ireturn, 1)) (h : post x L μ) : ot_T p l e R s m args below meth c g nL cells slots (MQ below (ot_Q g (ot_pi post)) args s mc ms (ot_A g)) L μ pc lv [.inl x] := by
  intro H locs ls hP hS hl
  refine W.widen hc hs ?_
  exact W.iret (hlocks := hr.2) X.1 X.2.1 hr.1 (fun t ht _ => ⟨⟨some x, L, μ, rfl, ⟨x, rfl, h⟩, by rw [ht]; exact hP⟩, hS.F ht⟩) hS.2.2 hd
theorem tt_zret (X : ot_X p s m args c g cc nL own) (hr : meth.sig.returnType = some .boolean ∧ meth.locks = false) {x : Int} (hx : x = 0 ∨ x = 1) (hc : cells ≤ mc) (hs : slots ≤ ms) (hd : decode cc pc = .ok (.ireturn, 1)) (h : post x L μ) : ot_T p l e R s m args below meth c g nL cells slots (MQ below (ot_Q g (ot_pi post)) args s mc ms (ot_A g)) L μ pc lv [.inl x] := by
  intro H locs ls hP hS hl
  refine W.widen hc hs ?_
  exact W.zret (ty := .boolean) (hlocks := hr.2) X.1 X.2.1 hr.1 (by rcases hx with rfl | rfl <;> decide) (fun t ht _ => ⟨⟨some x, L, μ, rfl, ⟨x, rfl, h⟩, by rw [ht]; exact hP⟩, hS.F ht⟩) hS.2.2 hd
theorem tt_vret (X : ot_X p s m args c g cc nL own) (hr : meth.sig.returnType = none ∧ meth.locks = false) (hc : cells ≤ mc) (hs : slots ≤ ms) (hd : decode cc pc = .ok (.return_, 1)) (h : postv L μ) : ot_T p l e R s m args below meth c g nL cells slots (MQ below (ot_Q g (ot_pv postv)) args s mc ms (ot_A g)) L μ pc lv [] := by
  intro H locs ls hP hS hl
  refine W.widen hc hs ?_
  exact W.vret (hlocks := hr.2) X.1 X.2.1 hr.1 (fun t ht _ => ⟨⟨none, L, μ, rfl, ⟨rfl, h⟩, by rw [ht]; exact hP⟩, hS.F ht⟩) hS.2.2 hd
/-- behind a call -/
theorem ot_back {rm : Room} {as : Array Value} {mc1 ms1 : Nat} {H : Heap} {locs : List Loc} {ls : Array Slot} {st0 : List Value} (hr : va_Run p l e R s m args below meth c H locs cells slots mc1 ms1 (F0 m pc ls st0) (st.map (ot_v g.1.size)) (ot_Q g Pf as) (ot_A g)) (hS : va_S (ot_A g) s.heap H locs) (hl : ot_H g.1.size nL lv ls)
    (k : ∀ (r : Option Int) (L2 : ot_L) (μ2 : ot_M), Pf r L2 μ2 → ot_T p l e R s m args below meth c g nL (cells + mc1) (slots + ms1) Q L2 μ2 (pc + 3) lv (r.toList.map .inl ++ st)) : W p l e R s m args below meth c H locs cells slots Q (F0 m pc ls st0) := by
  intro T hT X
  obtain ⟨v, st₀, t, T', Lc, h0, X', hL, e1, e2, ⟨⟨r, L2, μ2, hv, hp, hb⟩, hz, hk⟩, stp⟩ := hr T hT X
  cases hv
  rw [h0] at hz hk
  have hS1 : va_S (ot_A g) s.heap T'.heap (locs ++ Lc) := ⟨Nat.le_trans hS.1 (by rw [e1]; exact hz), fun q h1 h2 => by rw [e1, hk q (Nat.lt_of_lt_of_le h1 hS.1) h2]; exact hS.2.1 q h1 h2, fun q hq => by
      rcases List.mem_append.mp hq with h | h
      · exact hS.2.2 q h
      · exact hL q h⟩
  have hk2 := k r L2 μ2 hp T'.heap (locs ++ Lc) ls (by rw [e1]; exact hb) hS1 hl
  obtain ⟨t2, a1, b1⟩ := hk2 T' rfl X'
  refine ⟨t2, stp t2 ?_, b1⟩
  cases r with
  | none => exact a1
  | some z => exact a1
/-- the words of a call -/
def ot_MV (own : String) (idx : Nat) (y : MethodName) (cc : ByteArray) (n : Nat) (ret : Option FieldType) (na : Nat) : Prop := (∀ w ∈ ([.methodLink own idx y, .instanceMethod y, .selects y.cls y y, .initialized y.cls, .code y cc n ret] : List Cond), w ∈ ot_ws) ∧ (y.cls ≠ "java/lang/invoke/MethodHandle" ∧ y.cls ≠ "java/lang/invoke/VarHandle" ∧ (parseMethodDescriptor y.desc).map (fun d => d.parameters.length) = some na) ∧ n ≤ 21
def ot_MS (own : String) (idx : Nat) (y : MethodName) (cc : ByteArray) (n : Nat) (ret : Option FieldType) (na : Nat) : Prop := (∀ w ∈ ([.methodLink own idx y, .static y, .initialized y.cls, .code y cc n ret] : List Cond), w ∈ ot_ws) ∧ (y.cls ≠ "java/lang/invoke/MethodHandle" ∧ y.cls ≠ "java/lang/invoke/VarHandle" ∧ (parseMethodDescriptor y.desc).map (fun d => d.parameters.length) = some na) ∧ n ≤ 21
def ot_MN (own : String) (idx : Nat) (y : MethodName) (cc : ByteArray) (n : Nat) (na : Nat) : Prop := (∀ w ∈ ([.methodLink own idx y, .instanceMethod y, .initialized y.cls, .code y cc n none] : List Cond), w ∈ ot_ws) ∧ (y.cls ≠ "java/lang/invoke/MethodHandle" ∧ y.cls ≠ "java/lang/invoke/VarHandle" ∧ (parseMethodDescriptor y.desc).map (fun d => d.parameters.length) = some na) ∧ n ≤ 21 ∧ y.name = "<init>"
theorem ot_blind {as : List ot_V} : FrameBlind (va_Pc (as.map (ot_v g.1.size)) (ot_B g L μ)) := by
  intro a U f mk q
  obtain ⟨q0, qP, qU, qJ⟩ := q
  exact ⟨q0, qP, ⟨va_K.moved (u := U) (U := U.calling f mk a) (Vm.Alike.refl U.vm) qU.1, qJ.2.1 U _ _ rfl qU.2⟩, qJ⟩
theorem ot_preU (X : ot_X p s m args c g cc nL own) {H : Heap} (hP : ot_P g L μ H) (U : State) (hU : U.heap = H) (hW : s.WarmedH U.vm) : ot_B g L μ U := ⟨by rw [hU]; exact hP, ⟨va_K.moved hW.alike X.2.2.2.2.2.1.1, X.2.2.2.2.2.2.2.1 s U _ hW X.2.2.2.2.2.1.2⟩, X.2.2.2.2.2.2.2⟩
theorem ot_sum : ∀ (b : Nat) (st : List ot_V), ((st.map (ot_v b)).map fun v => v.category).sum = st.length
  | _, [] => rfl
  | b, a :: t => by
    rw [List.map_cons, List.map_cons, List.sum_cons, ot_sum b t, ot_cat, List.length_cons]
    omega
theorem tt_callV (X : ot_X p s m args c g cc nL own) {y : MethodName} {cc1 : ByteArray} {ret : Option FieldType} {idx n1 na d d1 mc0 ms0 mc1 ms1 k0 cn n : Nat} {rs : List (Option Nat)} {as st0 : List ot_V} (hR : R = ot_rm d mc0 ms0) (hm : ot_MV own idx y cc1 n1 ret na) (hC : ot_C l g y cc1 n1 ret d1 mc1 ms1 (.inr k0 :: as) L μ Pf) (hk : L[k0]? = some (cn + 2, n, rs)) (hq : ∃ q : vw_C, ot_cl[cn]? = some q ∧ q.1 = y.cls) (hst : st0 = as.reverse ++ .inr k0 :: st) (hn : as.length = na) (h8 : st.length ≤ 8) (hdd : d1 + 1 ≤ d) (hmc : cells + mc1 ≤ mc0) (hms : slots + ms1 ≤ ms0) (hd : decode cc pc = .ok (.invokevirtual idx, 3))
    (k : ∀ (r : Option Int) (L2 : ot_L) (μ2 : ot_M), Pf r L2 μ2 → ot_T p l e R s m args below meth c g nL (cells + mc1) (slots + ms1) Q L2 μ2 (pc + 3) lv (r.toList.map .inl ++ st)) : ot_T p l e R s m args below meth c g nL cells slots Q L μ pc lv st0 := by
  intro H locs ls hP hS hl
  subst hst; subst hR
  have hok := hm.1
  have hG : GoodIn ot_ws (wsV own idx y.cls y (.code y cc1 n1 ret :: ot_ws)) := ot_good (fun w hw => by
    unfold wsV at hw
    simp only [List.mem_append, List.mem_cons, List.not_mem_nil, or_false] at hw
    rcases hw with hw | hw | hw
    · exact hok w (by simp only [List.mem_cons]; rcases hw with h | h | h | h <;> simp [h])
    · exact hok w (by simp [hw])
    · exact hw)
  obtain ⟨q, q1, q2⟩ := hq
  have hrc := va_recv X.2.2.2.2.2.1.1 hP.1 q1 (ot_w_at hk)
  rw [q2] at hrc
  refine ot_back (rm := ot_rm d1 mc1 ms1) (va_runV (C := y.cls) (n := na) (b := g.1.size + k0) (As := as.map (ot_v g.1.size)) (rest := st.map (ot_v g.1.size)) ⟨X.1, X.2.1, X.2.2.1, X.2.2.2.1, X.2.2.2.2.1⟩ hC (cwV na X.2.2.2.2.1 hG rfl rfl rfl ⟨rfl, hm.2.1⟩ ⟨hdd, ?_⟩) ⟨ot_blind, hrc, fun U hU hW => ⟨rfl, ot_preU X hP U hU hW⟩⟩ rfl (by rw [List.length_map]; exact hn) hl.1 (by simp [ot_v]) (lv_room (by rw [ot_sum]; exact h8)) hd ⟨hmc, hms⟩) hS hl k
  have := hm.2.2
  simp only [ot_rm]
  omega
theorem tt_callS (X : ot_X p s m args c g cc nL own) {y : MethodName} {cc1 : ByteArray} {ret : Option FieldType} {idx n1 na d d1 mc0 ms0 mc1 ms1 : Nat} {as st0 : List ot_V} (hR : R = ot_rm d mc0 ms0) (hm : ot_MS own idx y cc1 n1 ret na) (hC : ot_C l g y cc1 n1 ret d1 mc1 ms1 as L μ Pf) (hst : st0 = as.reverse ++ st) (hn : as.length = na) (h8 : st.length ≤ 8) (hdd : d1 + 1 ≤ d) (hmc : cells + mc1 ≤ mc0) (hms : slots + ms1 ≤ ms0) (hd : decode cc pc = .ok (.invokestatic idx, 3))
    (k : ∀ (r : Option Int) (L2 : ot_L) (μ2 : ot_M), Pf r L2 μ2 → ot_T p l e R s m args below meth c g nL (cells + mc1) (slots + ms1) Q L2 μ2 (pc + 3) lv (r.toList.map .inl ++ st)) : ot_T p l e R s m args below meth c g nL cells slots Q L μ pc lv st0 := by
  intro H locs ls hP hS hl
  subst hst; subst hR
  have hok := hm.1
  have hG : GoodIn ot_ws (va_wsS own idx y (.code y cc1 n1 ret :: ot_ws)) := ot_good (fun w hw => by
    unfold va_wsS at hw
    simp only [List.mem_append, List.mem_cons, List.not_mem_nil, or_false] at hw
    rcases hw with hw | hw | hw
    · exact hok w (by simp only [List.mem_cons]; rcases hw with h | h | h <;> simp [h])
    · exact hok w (by simp [hw])
    · exact hw)
  refine ot_back (rm := ot_rm d1 mc1 ms1) (va_runS (n := na) (As := as.map (ot_v g.1.size)) (rest := st.map (ot_v g.1.size)) ⟨X.1, X.2.1, X.2.2.1, X.2.2.2.1, X.2.2.2.2.1⟩ hC (va_cwS na X.2.2.2.2.1 hG rfl rfl rfl hm.2.1 ⟨hdd, ?_⟩) ⟨ot_blind, fun U hU hW => ⟨rfl, ot_preU X hP U hU hW⟩⟩ rfl (by rw [List.length_map]; exact hn) hl.1 (by simp) (lv_room (by rw [ot_sum]; exact h8)) hd ⟨hmc, hms⟩) hS hl k
  have := hm.2.2
  simp only [ot_rm]
  omega
theorem tt_callI (X : ot_X p s m args c g cc nL own) {y : MethodName} {cc1 : ByteArray} {idx n1 na d d1 mc0 ms0 mc1 ms1 k0 : Nat} {as st0 : List ot_V} (hR : R = ot_rm d mc0 ms0) (hm : ot_MN own idx y cc1 n1 na) (hC : ot_C l g y cc1 n1 none d1 mc1 ms1 (.inr k0 :: as) L μ Pf) (hst : st0 = as.reverse ++ .inr k0 :: st) (hn : as.length = na) (h8 : st.length ≤ 8) (hdd : d1 + 1 ≤ d) (hmc : cells + mc1 ≤ mc0) (hms : slots + ms1 ≤ ms0) (hd : decode cc pc = .ok (.invokespecial idx, 3))
    (k : ∀ (r : Option Int) (L2 : ot_L) (μ2 : ot_M), Pf r L2 μ2 → ot_T p l e R s m args below meth c g nL (cells + mc1) (slots + ms1) Q L2 μ2 (pc + 3) lv (r.toList.map .inl ++ st)) : ot_T p l e R s m args below meth c g nL cells slots Q L μ pc lv st0 := by
  intro H locs ls hP hS hl
  subst hst; subst hR
  have hok := hm.1
  have hG : GoodIn ot_ws (.code y cc1 n1 none :: ot_ws) := ot_good (fun w hw => by
    rcases List.mem_cons.mp hw with hw | hw
    · exact hok w (by simp [hw])
    · exact hw)
  have ok : ∀ w, w ∈ ot_ws → w.before args s = true := X.2.2.2.2.1
  refine ot_back (rm := ot_rm d1 mc1 ms1) (va_runI (n := na) (b := g.1.size + k0) (As := as.map (ot_v g.1.size)) (rest := st.map (ot_v g.1.size)) ⟨X.1, X.2.1, X.2.2.1, X.2.2.2.1, X.2.2.2.2.1⟩ hC (cwI na X.2.2.2.2.1 hG rfl rfl rfl (ok _ (hok _ (by simp))) (ok _ (hok _ (by simp))) (ok _ (hok _ (by simp))) hm.2.2.2 hm.2.1 ⟨hdd, ?_⟩) ⟨ot_blind, fun U hU hW => ⟨rfl, ot_preU X hP U hU hW⟩⟩ rfl (by rw [List.length_map]; exact hn) hl.1 (by simp [ot_v]) (lv_room (by rw [ot_sum]; exact h8)) hd ⟨hmc, hms⟩) hS hl k
  have := hm.2.2.1
  simp only [ot_rm]
  omega
end OT3

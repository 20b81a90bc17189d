/-! TEXTS THAT ARE CONSTANTS: what is known of them, rows and calls over them -/
def ot_CV (l : Launch) (g : ot_G) (y : MethodName) (cc : ByteArray) (n : Nat) (ret : Option FieldType) (d mc ms : Nat) (as : List Value) (L : ot_L) (μ : ot_M) (Pf : Option Int → ot_L → ot_M → Prop) : Prop :=
  Met l y (.code y cc n ret :: ot_ws) (ot_rm d mc ms) (va_Pc as (ot_B g L μ)) (ot_Q g Pf) mc ms (ot_A g)
def ot_lav (i : Nat) (as : List Value) : List (Nat × Value) := match as with
  | [] => []
  | a :: t => (i, a) :: ot_lav (i + 1) t
theorem ot_lav_args : ∀ (as : List Value) (i : Nat), (∀ v ∈ as, v.category = 1) → lv_args i as = ot_lav i as
  | [], _, _ => rfl
  | a :: t, i, h => by
    show (i, a) :: lv_args _ _ = _
    rw [if_neg (by rw [h a List.mem_cons_self]; decide), ot_lav_args t (i + 1) (fun v hv => h v (List.mem_cons_of_mem _ hv))]
    rfl
theorem ot_slv_len : ∀ (as : List Value), (∀ v ∈ as, v.category = 1) → (lg_sl as).length = as.length
  | [], _ => rfl
  | a :: t, h => by
    show (List.flatMap _ _).length = _
    rw [List.flatMap_cons, if_neg (by rw [h a List.mem_cons_self]; decide)]
    have := ot_slv_len t (fun v hv => h v (List.mem_cons_of_mem _ hv))
    unfold lg_sl at this
    simp [this]
theorem ot_lgv_mem : ∀ {lv : List (Nat × Value)} {k : Nat} {v : Value}, ot_lgv lv k = some v → (k, v) ∈ lv
  | [], _, _, e => by cases e
  | q :: t, k, v, e => by
    unfold ot_lgv at e
    split at e
    · rename_i hk
      cases e
      rw [← hk]
      exact List.mem_cons_self
    · exact List.mem_cons_of_mem _ (ot_lgv_mem e)
theorem ot_lav_cat : ∀ (as : List Value) (i : Nat), (∀ v ∈ as, v.category = 1) → ∀ q ∈ ot_lav i as, q.2.category = 1
  | [], _, _, q, hq => by cases hq
  | a :: t, i, h, q, hq => by
    rcases List.mem_cons.mp hq with e | e
    · rw [e]; exact h a List.mem_cons_self
    · exact ot_lav_cat t (i + 1) (fun v hv => h v (List.mem_cons_of_mem _ hv)) q e
theorem ot_enterV {l : Launch} {g : ot_G} {y : MethodName} {cc : ByteArray} {n : Nat} {ret : Option FieldType} {d mc ms : Nat} {as : List Value} {L : ot_L} {μ : ot_M} {Pf : Option Int → ot_L → ot_M → Prop} (hcat : ∀ v ∈ as, v.category = 1) (hy : plainFor y = true) (hn : as.length ≤ n)
    (body : ∀ (p : Program) (e : Env) (s : State) (m : MethodId) (args : Array Value) (below : List Frame) (meth : Method) (c : Code), ot_X p s m args c g cc n y.cls → meth.sig.returnType = ret ∧ meth.locks = false ∧ meth.name = y.name ∧ s.heap.size = g.1.size + L.length →
      ot_TV p l e (ot_rm d mc ms) s m args below meth c g n 0 0 (MQ below (ot_Q g Pf) args s mc ms (ot_A g)) L μ 0 (ot_lav 0 as) []) : ot_CV l g y cc n ret d mc ms as L μ Pf := by
  refine va_MetF (cc := cc) (maxL := n) (ret := ret) hy rfl ?_
  intro p e s m args below meth c s₁ B hml hv
  obtain ⟨rfl, hP, hU, hJ⟩ := hv
  have hts := atoms_spec (ws := (.code y cc n ret :: ot_ws)) B.pre
  have hown : s.vm.findClass y.cls = some m.cls := findClass_of_methodNamed B.named
  have hX : ot_X p s m as.toArray c g cc n y.cls := ⟨B.exec, B.bytes, hml, hown, fun w h => hts w (List.mem_cons_of_mem _ h), hU, by rw [hP.2.1]; exact Nat.le_add_right _ _, hJ⟩
  rw [lg_entry_eq]
  have hl := lv_entry as (n := n) (by rw [ot_slv_len as hcat]; exact hn)
  refine body p e s m _ below meth c hX ⟨B.returns, B.notSynchronized, (name_of_methodNamed B.named B.method).1, hP.2.1⟩ s.heap [] _ hP va_S.rf ⟨hl.1, hl.2.1, fun k v e => ?_⟩
  have hm := ot_lgv_mem e
  refine ⟨ot_lav_cat as 0 hcat _ hm, ?_⟩
  have h := hl.2.2 (k, v)
  rw [ot_lav_args as 0 hcat] at h
  exact h hm
section OTW
variable {p : Program} {l : Launch} {e : Env} {R : Room} {s : State} {m : MethodId} {args : Array Value} {below : List Frame} {meth : Method} {c : Code} {g : ot_G} {nL cells slots mc ms : Nat} {Q : State → Prop} {cc : ByteArray} {own : String}
variable {L : ot_L} {μ : ot_M} {pc : Nat} {lv : List (Nat × Value)} {st : List Value} {Pf : Option Int → ot_L → ot_M → Prop} {post : Int → ot_L → ot_M → Prop} {postv : ot_L → ot_M → Prop}
/-- what lies below the cells is as it was -/
theorem ot_low (X : ot_X p s m args c g cc nL own) {H : Heap} {locs : List Loc} (hP : ot_P g L μ H) (hS : va_S (ot_A g) s.heap H locs) (a : Nat) (h : a < g.1.size) : s.heap[a]? = g.1[a]? := by
  rw [← hP.2.2 a h]
  exact (hS.2.1 a (Nat.lt_of_lt_of_le h X.2.2.2.2.2.2.1) (fun q => absurd h (Nat.not_lt.mpr q))).symm
theorem tv_strf (X : ot_X p s m args c g cc nL own) {idx q : Nat} {n d : String} {v : Value} (hF : ∀ U : State, g.2.2.2.2 U g.1 → va_OF "java/lang/String" n d v q (ot_A g) U g.1) (hlink : Cond.fieldLink own idx "java/lang/String" n d ∈ ot_ws) (hd : decode cc pc = .ok (.getfield idx, 3))
    (k : ot_TV p l e R s m args below meth c g nL cells slots Q L μ (pc + 3) lv (v :: st)) : ot_TV p l e R s m args below meth c g nL cells slots Q L μ pc lv (.ref q :: st) := by
  intro H locs ls hP hS hl
  exact vk_getf X.1 X.2.1 ((hF s X.2.2.2.2.2.1.2).kept (fun a h _ => ot_low X hP hS a h)) hS X.2.2.2.1 (X.2.2.2.2.1 _ hlink) (fun _ h => h) hd (k H locs ls hP hS hl)
theorem tv_gets (X : ot_X p s m args c g cc nL own) {idx : Nat} {C n d : String} {v : Value} (hF : ∀ U : State, g.2.2.2.2 U g.1 → va_Z C n d v (ot_A g) U g.1) (hlink : Cond.fieldLink own idx C n d ∈ ot_ws) (hd : decode cc pc = .ok (.getstatic idx, 3))
    (k : ot_TV p l e R s m args below meth c g nL cells slots Q L μ (pc + 3) lv (v :: st)) : ot_TV p l e R s m args below meth c g nL cells slots Q L μ pc lv st := by
  intro H locs ls hP hS hl
  exact va_gets X.1 X.2.1 ((hF s X.2.2.2.2.2.1.2).kept (fun a h _ => ot_low X hP hS a h)) hS X.2.2.2.1 (X.2.2.2.2.1 _ hlink) (fun _ h => h) hd (k H locs ls hP hS hl)
theorem tv_tb (X : ot_X p s m args c g cc nL own) {t N : Nat} {f : Nat → Value} {i : Int} {v : Value} (hF : ∀ U : State, g.2.2.2.2 U g.1 → va_T .byte t N f (ot_A g) U g.1) (hi : 0 ≤ i ∧ i < N ∧ i ≤ 2147483647) (hv : f i.toNat = v) (hd : decode cc pc = .ok (.baload, 1))
    (k : ot_TV p l e R s m args below meth c g nL cells slots Q L μ (pc + 1) lv (v :: st)) : ot_TV p l e R s m args below meth c g nL cells slots Q L μ pc lv (ot_i i :: .ref t :: st) := by
  intro H locs ls hP hS hl
  exact va_tb X.1 X.2.1 ((hF s X.2.2.2.2.2.1.2).kept (fun a h _ => ot_low X hP hS a h)) hS (ot_in hi) (v := v) (by rw [ot_cl_of hi.1 hi.2.2]; exact hv) hd (k H locs ls hP hS hl)
theorem tv_tlen (X : ot_X p s m args c g cc nL own) {t N : Nat} {f : Nat → Value} (hF : ∀ U : State, g.2.2.2.2 U g.1 → va_T .byte t N f (ot_A g) U g.1) (hd : decode cc pc = .ok (.arraylength, 1))
    (k : ot_TV p l e R s m args below meth c g nL cells slots Q L μ (pc + 1) lv (ot_i (N : Int) :: st)) : ot_TV p l e R s m args below meth c g nL cells slots Q L μ pc lv (.ref t :: st) := by
  intro H locs ls hP hS hl
  exact va_tlen X.1 X.2.1 ((hF s X.2.2.2.2.2.1.2).kept (fun a h _ => ot_low X hP hS a h)) hS (v := Int32.ofInt (N : Int)) Int32.ofInt_eq_ofNat.symm hd (k H locs ls hP hS hl)
theorem tv_ldcS (X : ot_X p s m args c g cc nL own) {idx q : Nat} {tx : String} (hF : ∀ U : State, g.2.2.2.2 U g.1 → vk_R own idx tx q U) (hd : decode cc pc = .ok (.ldc idx, 2))
    (k : ot_TV p l e R s m args below meth c g nL cells slots Q L μ (pc + 2) lv (.ref q :: st)) : ot_TV p l e R s m args below meth c g nL cells slots Q L μ pc lv st := by
  intro H locs ls hP hS hl
  exact va_ldcS X.1 X.2.1 X.2.2.2.1 (hF s X.2.2.2.2.2.1.2) hd (k H locs ls hP hS hl)
theorem tv_iret (X : ot_X p s m args c g cc nL own) {ty : FieldType} (hr : meth.sig.returnType = some ty ∧ meth.locks = false) {x : Int} (hx : ty = .int ∨ (ty = .boolean ∧ (x = 0 ∨ x = 1)) ∨ (ty = .char ∧ 0 ≤ x ∧ x ≤ 255) ∨ (ty = .byte ∧ x = 0)) (hc : cells ≤ mc) (hs : slots ≤ ms) (hd : decode cc pc = .ok (.ireturn, 1)) (h : post x L μ) : ot_TV p l e R s m args below meth c g nL cells slots (MQ below (ot_Q g (ot_pi post)) args s mc ms (ot_A g)) L μ pc lv [ot_i x] := by
  intro H locs ls hP hS hl
  refine W.widen hc hs ?_
  rcases hx with rfl | ⟨rfl, hx⟩ | ⟨rfl, hx⟩ | ⟨rfl, hx⟩
  · exact W.iret (hlocks := hr.2) X.1 X.2.1 hr.1 (fun t ht _ => ⟨⟨some x, L, μ, rfl, ⟨x, rfl, h⟩, by rw [ht]; exact hP⟩, hS.F ht⟩) hS.2.2 hd
  · exact W.zret (ty := .boolean) (hlocks := hr.2) X.1 X.2.1 hr.1 (by rcases hx with rfl | rfl <;> decide) (fun t ht _ => ⟨⟨some x, L, μ, rfl, ⟨x, rfl, h⟩, by rw [ht]; exact hP⟩, hS.F ht⟩) hS.2.2 hd
  · refine W.zret (ty := .char) (hlocks := hr.2) X.1 X.2.1 hr.1 ?_ (fun t ht _ => ⟨⟨some x, L, μ, rfl, ⟨x, rfl, h⟩, by rw [ht]; exact hP⟩, hS.F ht⟩) hS.2.2 hd
    have key : ∀ n : Nat, n < 256 → narrow .char (.int (Int32.ofInt (n : Int))) = .int (Int32.ofInt (n : Int)) := by decide +kernel
    have := key x.toNat (by omega)
    rw [Int.toNat_of_nonneg hx.1] at this
    exact this
  · refine W.zret (ty := .byte) (hlocks := hr.2) X.1 X.2.1 hr.1 ?_ (fun t ht _ => ⟨⟨some x, L, μ, rfl, ⟨x, rfl, h⟩, by rw [ht]; exact hP⟩, hS.F ht⟩) hS.2.2 hd
    rw [hx]; decide
theorem tv_vret (X : ot_X p s m args c g cc nL own) (hr : meth.sig.returnType = none ∧ meth.locks = false) (hc : cells ≤ mc) (hs : slots ≤ ms) (hd : decode cc pc = .ok (.return_, 1)) (h : postv L μ) : ot_TV p l e R s m args below meth c g nL cells slots (MQ below (ot_Q g (ot_pv postv)) args s mc ms (ot_A g)) L μ pc lv [] := by
  intro H locs ls hP hS hl
  refine W.widen hc hs ?_
  exact W.vret (hlocks := hr.2) X.1 X.2.1 hr.1 (fun t ht _ => ⟨⟨none, L, μ, rfl, ⟨rfl, h⟩, by rw [ht]; exact hP⟩, hS.F ht⟩) hS.2.2 hd
theorem ot_backV {rm : Room} {as : Array Value} {mc1 ms1 : Nat} {H : Heap} {locs : List Loc} {ls : Array Slot} {st0 : List Value} (hr : va_Run p l e R s m args below meth c H locs cells slots mc1 ms1 (F0 m pc ls st0) st (ot_Q g Pf as) (ot_A g)) (hS : va_S (ot_A g) s.heap H locs) (hl : ot_HV nL lv ls)
    (k : ∀ (r : Option Int) (L2 : ot_L) (μ2 : ot_M), Pf r L2 μ2 → ot_TV p l e R s m args below meth c g nL (cells + mc1) (slots + ms1) Q L2 μ2 (pc + 3) lv (r.toList.map ot_i ++ st)) : W p l e R s m args below meth c H locs cells slots Q (F0 m pc ls st0) := by
  intro T hT X
  obtain ⟨v, st₀, t, T', Lc, h0, X', hL, e1, e2, ⟨⟨r, L2, μ2, hv, hp, hb⟩, hz, hk⟩, stp⟩ := hr T hT X
  cases hv
  rw [h0] at hz hk
  have hS1 : va_S (ot_A g) s.heap T'.heap (locs ++ Lc) := ⟨Nat.le_trans hS.1 (by rw [e1]; exact hz), fun q h1 h2 => by rw [e1, hk q (Nat.lt_of_lt_of_le h1 hS.1) h2]; exact hS.2.1 q h1 h2, fun q hq => by
      rcases List.mem_append.mp hq with h | h
      · exact hS.2.2 q h
      · exact hL q h⟩
  have hk2 := k r L2 μ2 hp T'.heap (locs ++ Lc) ls (by rw [e1]; exact hb) hS1 hl
  obtain ⟨t2, a1, b1⟩ := hk2 T' rfl X'
  refine ⟨t2, stp t2 ?_, b1⟩
  cases r with
  | none => exact a1
  | some z => exact a1
theorem ot_blindV {as : List Value} : FrameBlind (va_Pc as (ot_B g L μ)) := by
  intro a U f mk q
  obtain ⟨q0, qP, qU, qJ⟩ := q
  exact ⟨q0, qP, ⟨va_K.moved (u := U) (U := U.calling f mk a) (Vm.Alike.refl U.vm) qU.1, qJ.2.1 U _ _ rfl qU.2⟩, qJ⟩
def ot_c1 (st : List Value) : Prop := (st.map fun v => v.category).sum ≤ 8
theorem tv_callV (X : ot_X p s m args c g cc nL own) {y : MethodName} {cc1 : ByteArray} {ret : Option FieldType} {idx n1 na d d1 mc0 ms0 mc1 ms1 b : Nat} {as st0 : List Value} (hR : R = ot_rm d mc0 ms0) (hm : ot_MV own idx y cc1 n1 ret na) (hC : ot_CV l g y cc1 n1 ret d1 mc1 ms1 (.ref b :: as) L μ Pf) (hO : ∀ U : State, g.2.2.2.2 U g.1 → va_O y.cls b (ot_A g) U g.1) (hst : st0 = as.reverse ++ .ref b :: st) (hn : as.length = na) (h8 : ot_c1 st) (hdd : d1 + 1 ≤ d) (hmc : cells + mc1 ≤ mc0) (hms : slots + ms1 ≤ ms0) (hd : decode cc pc = .ok (.invokevirtual idx, 3))
    (k : ∀ (r : Option Int) (L2 : ot_L) (μ2 : ot_M), Pf r L2 μ2 → ot_TV p l e R s m args below meth c g nL (cells + mc1) (slots + ms1) Q L2 μ2 (pc + 3) lv (r.toList.map ot_i ++ st)) : ot_TV p l e R s m args below meth c g nL cells slots Q L μ pc lv st0 := by
  intro H locs ls hP hS hl
  subst hst; subst hR
  have hok := hm.1
  have hG : GoodIn ot_ws (wsV own idx y.cls y (.code y cc1 n1 ret :: ot_ws)) := ot_good (fun w hw => by
    unfold wsV at hw
    simp only [List.mem_append, List.mem_cons, List.not_mem_nil, or_false] at hw
    rcases hw with hw | hw | hw
    · exact hok w (by simp only [List.mem_cons]; rcases hw with h | h | h | h <;> simp [h])
    · exact hok w (by simp [hw])
    · exact hw)
  have hrc : ∃ cell : Cell, H[b]? = some cell ∧ cell.vm.isStatics = false ∧ s.vm.findClass y.cls = some cell.cls := by
    obtain ⟨cell, h1, h2, h3, h4⟩ := hO s X.2.2.2.2.2.1.2
    exact ⟨cell, by rw [hP.2.2 b (Array.getElem?_eq_some_iff.mp h1).1]; exact h1, h2, h3⟩
  refine ot_backV (rm := ot_rm d1 mc1 ms1) (va_runV (C := y.cls) (n := na) (b := b) (As := as) (rest := st) ⟨X.1, X.2.1, X.2.2.1, X.2.2.2.1, X.2.2.2.2.1⟩ hC (cwV na X.2.2.2.2.1 hG rfl rfl rfl ⟨rfl, hm.2.1⟩ ⟨hdd, ?_⟩) ⟨ot_blindV, hrc, fun U hU hW => ⟨rfl, ot_preU X hP U hU hW⟩⟩ rfl hn hl.1 rfl (lv_room h8) hd ⟨hmc, hms⟩) hS hl k
  have := hm.2.2
  simp only [ot_rm]
  omega
theorem tv_callS (X : ot_X p s m args c g cc nL own) {y : MethodName} {cc1 : ByteArray} {ret : Option FieldType} {idx n1 na d d1 mc0 ms0 mc1 ms1 : Nat} {as st0 : List Value} (hR : R = ot_rm d mc0 ms0) (hm : ot_MS own idx y cc1 n1 ret na) (hC : ot_CV l g y cc1 n1 ret d1 mc1 ms1 as L μ Pf) (hst : st0 = as.reverse ++ st) (hn : as.length = na) (h8 : ot_c1 st) (hdd : d1 + 1 ≤ d) (hmc : cells + mc1 ≤ mc0) (hms : slots + ms1 ≤ ms0) (hd : decode cc pc = .ok (.invokestatic idx, 3))
    (k : ∀ (r : Option Int) (L2 : ot_L) (μ2 : ot_M), Pf r L2 μ2 → ot_TV p l e R s m args below meth c g nL (cells + mc1) (slots + ms1) Q L2 μ2 (pc + 3) lv (r.toList.map ot_i ++ st)) : ot_TV p l e R s m args below meth c g nL cells slots Q L μ pc lv st0 := by
  intro H locs ls hP hS hl
  subst hst; subst hR
  have hok := hm.1
  have hG : GoodIn ot_ws (va_wsS own idx y (.code y cc1 n1 ret :: ot_ws)) := ot_good (fun w hw => by
    unfold va_wsS at hw
    simp only [List.mem_append, List.mem_cons, List.not_mem_nil, or_false] at hw
    rcases hw with hw | hw | hw
    · exact hok w (by simp only [List.mem_cons]; rcases hw with h | h | h <;> simp [h])
    · exact hok w (by simp [hw])
    · exact hw)
  refine ot_backV (rm := ot_rm d1 mc1 ms1) (va_runS (n := na) (As := as) (rest := st) ⟨X.1, X.2.1, X.2.2.1, X.2.2.2.1, X.2.2.2.2.1⟩ hC (va_cwS na X.2.2.2.2.1 hG rfl rfl rfl hm.2.1 ⟨hdd, ?_⟩) ⟨ot_blindV, fun U hU hW => ⟨rfl, ot_preU X hP U hU hW⟩⟩ rfl hn hl.1 rfl (lv_room h8) hd ⟨hmc, hms⟩) hS hl k
  have := hm.2.2
  simp only [ot_rm]
  omega
end OTW

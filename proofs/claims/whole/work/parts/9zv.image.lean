/-! THE CLAIM OUT OF ONE WALK OF THE LAW'S BODY. Your part is whole_start (and what it stands on); all else here is the same for every law, but numbers. -/
def R_law : String := "OneThreadLaw"
def lw_P (b : Addr) (xs : List Int32) (args : Array Value) (s : State) : Prop := args = #[.ref b] ∧ s.IntsAt b xs ∧ xs.length ≤ 3072 ∧ (Jvm.Cond.and given_1 narrow_1).before args s = true
def lw_Q (_ : Array Value) (s : State) (o : Outcome) (t : State) : Prop := o = .returned (some (.int 1)) ∧ Framed s o t [] 600000 7302250
def lw_Z (below : List Frame) (a : Array Value) (s : State) : State → Prop := fun t => ∃ o, t.status = .running ∧ Ended t below o ∧ lw_Q a s o t
/-- the law's own end, with 1 on the stack, nothing written that was there before, its room as the claim has it -/
theorem lw_ret {p : Program} {l : Launch} {e : Env} {s : State} {m : MethodId} {below : List Frame} {meth : Method} {c : Code} {b : Nat} (hx : p.tables.exec = Jvm.exec) (hb : c.code = code) (hr : meth.sig.returnType = ret) (hlocks : meth.locks = false) {pc : Nat} {H : Heap} {ls : Array Slot} (hdg : decode code pc = .ok (.ireturn, 1)) : W p l e room_1 s m #[Value.ref b] below meth c H [] 600000 7302250 (lw_Z below #[Value.ref b] s) (F0 m pc ls [.int 1]) := by
  intro T hT X
  obtain ⟨fs, hret, hrun, hended, hW, hframe⟩ := X.leave (v := some (.int 1)) (hlocks := hlocks) (fun h => by rw [hr] at h; cases h)
  have hmeth' : T.vm.method? m = some meth := X.method'
  refine ⟨T.setFrames fs, ?_, .returned (some (.int 1)), hrun, hended, rfl, ⟨_, rfl⟩, hW, hframe⟩
  jvm_step X.here [X.here.top, hx, hb, hdg, hmeth', hr, ret, narrow_b1]
  (try refine ⟨rfl, ?_⟩); (try refine ⟨rfl, ?_⟩)
  first | (intro acts; rw [hret _ acts rfl rfl rfl]) | rw [hret _ _ rfl rfl rfl]
  exact Steps.refl _
/-- what holds at the law's entry: the machine, the code, the tables' words (any of lw_tbl by 'hts w (by decide +kernel)'), the script of L ints xs at the cell b, what the Statement gives of the start (any of its parts by flat_of_before) -/
def lw_At (p : Program) (s : State) (m : MethodId) (meth : Method) (c : Code) (b L : Nat) (xs : Nat → Int32) : Prop :=
  p.tables.exec = Jvm.exec ∧ c.code = code ∧ meth.sig.returnType = ret ∧ c.maxLocals = 4 ∧ s.vm.findClass R_law = some m.cls ∧ (∀ w ∈ lw_tbl, w.before #[Value.ref b] s = true) ∧ va_X b L xs s s.heap ∧ b < s.heap.size ∧ meth.locks = false ∧ (Jvm.Cond.and given_1 narrow_1).before #[Value.ref b] s = true
theorem im_pre {μ : ot_M} (h : rel μ) (w : μ 0 2 = 1) : (∀ j, 0 ≤ j → j < 16 → μ 31 j = 0 ∨ μ 31 j = 1) ∧ gPin ((takeM1 μ) 1 11) ((takeM1 μ) 1 12) ((takeM1 μ) 2) ((takeM1 μ) 3) ∧ gWnd ((takeM1 μ) 1 12) ((takeM1 μ) 8) ((takeM1 μ) 7) := by
  obtain ⟨hI1, hI2, hI3, hI4⟩ := h.2.2.2.2.2.2.2.2.2 w
  have t1 : takeM1 μ 1 11 = μ 17 11 ∧ takeM1 μ 1 12 = μ 17 12 := by
    unfold takeM1
    exact ⟨by simp [ot_up, ot_uc], by simp [ot_up, ot_uc]⟩
  have t2 : takeM1 μ 2 = wr 24 (μ 2) (μ 18) := by
    unfold takeM1
    funext i
    simp [ot_up, ot_uc]
  have t3 : takeM1 μ 3 = wr 24 (μ 3) (μ 19) := by
    unfold takeM1
    funext i
    simp [ot_up, ot_uc]
  have t7 : takeM1 μ 7 = wr 360 (μ 7) (μ 23) := by
    unfold takeM1
    funext i
    simp [ot_up, ot_uc]
  have t8 : takeM1 μ 8 = wr 3 (μ 8) (μ 24) := by
    unfold takeM1
    funext i
    simp [ot_up, ot_uc]
  have ho := okS_cg (px2 := wr 24 (μ 2) (μ 18)) (py2 := wr 24 (μ 3) (μ 19)) (wt2 := μ 20) (we2 := μ 21) (sh2 := μ 22) (rw2 := wr 360 (μ 7) (μ 23)) (ct2 := wr 3 (μ 8) (μ 24)) (sA2 := μ 25) (sB2 := μ 26) (tl2 := μ 27) hI1 (fun i i1 i2 => ⟨wr_in ⟨i1, i2⟩, wr_in ⟨i1, i2⟩⟩) (fun i i1 i2 => rfl) (fun i i1 i2 => ⟨rfl, rfl⟩) (fun i i1 i2 => ⟨rfl, wr_in ⟨i1, i2⟩⟩) (fun i i1 i2 => wr_in ⟨i1, i2⟩) (fun i i1 i2 => ⟨rfl, rfl⟩)
  rw [t1.1, t1.2, t2, t3, t7, t8]
  exact ⟨hI2, ho.1, ho.2.1⟩
set_option maxRecDepth 100000 in
set_option maxHeartbeats 1000000 in
theorem la_im2 {p : Program} {l : Launch} {e : Env} {s : State} {m : MethodId} {below : List Frame} {meth : Method} {c : Code} {g : ot_G} {b N cells slots ln : Nat} {xs : Nat → Int32} {Q : State → Prop} {ext : ot_L} {μ : ot_M} {i : Int} (h : lwX p s m meth c g b N xs) (hr : rel μ) (hc6 : cells ≤ 599000) (hs6 : slots ≤ 7000000) {t z1 : Int} {μ1 : ot_M} (ht : t = 0 ∨ t = 1) (hf : frQ μ μ1) (hv : ∀ z2 μ2, imQ μ1 t z2 μ2 → z1 = z2 ∧ rel μ2) (K : ∀ μ2 : ot_M, rel μ2 → LW p l e s m below meth c g b Q cells slots (LL ln ext) μ2 1154 i []) : LW p l e s m below meth c g b Q cells slots (LL ln ext) μ1 1123 i [ot_i t, .ref (g.1.size + 60), ot_i z1] := by
  have hQ := relQ_fr (relQ_of hr) hf
  refine lr_call h mL_140 (q_image l g ln ext μ1 hQ.1 t ht hQ.2.2.2.2.2.2.2) (k_60 _ _) ⟨_, rfl, rfl⟩ rfl rfl (Nat.le_of_ble_eq_true rfl) (by decide) (by omega) (by omega) dL_law_1123 (fun z2 L2 μ2 hp => ?_)
  obtain ⟨rfl, hq⟩ := hp
  obtain ⟨e12, hr2⟩ := hv z2 μ2 hq
  refine lr_eq h e12 dL_law_1126 (by decide) ?_
  exact K μ2 hr2
set_option maxRecDepth 100000 in
set_option maxHeartbeats 1000000 in
theorem la_im1 {p : Program} {l : Launch} {e : Env} {s : State} {m : MethodId} {below : List Frame} {meth : Method} {c : Code} {g : ot_G} {b N cells slots ln : Nat} {xs : Nat → Int32} {Q : State → Prop} {ext : ot_L} {μ : ot_M} {i : Int} (h : lwX p s m meth c g b N xs) (hr : rel μ) (hc6 : cells ≤ 599000) (hs6 : slots ≤ 7000000) (hi : 0 ≤ i ∧ i + 6 ≤ (N : Int)) {t : Int} (ht : (sv xs (i + 1) = 0 ∧ t = 0) ∨ (sv xs (i + 1) ≠ 0 ∧ t = 1)) (K : ∀ μ2 : ot_M, rel μ2 → LW p l e s m below meth c g b Q cells slots (LL ln ext) μ2 1154 i []) : LW p l e s m below meth c g b Q cells slots (LL ln ext) μ 1106 i [ot_i t, .ref (g.1.size + 0)] := by
  have hLw := hr.2.2.2.2.2.1
  have hIm := hr.2.2.2.2.2.2.2.2
  have ht2 : t = 0 ∨ t = 1 := by omega
  refine lr_call h mL_136 (c_image l g ln ext μ t ht2 hIm.1 hLw.2.1 (fun w => im_pre hr w)) (k_0 _ _) ⟨_, rfl, rfl⟩ rfl rfl (Nat.le_of_ble_eq_true rfl) (by decide) (by omega) (by omega) dL_law_1106 (fun z1 L1 μ1 hp => ?_)
  obtain ⟨rfl, hc⟩ := hp
  have hf := fr_image hc
  have hv : ∀ z2 μ2, imQ μ1 t z2 μ2 → z1 = z2 ∧ rel μ2 := fun z2 μ2 hq => v_image hr ht2 hc hq
  refine lr_m h dL_law_1109 ?_
  refine lr_s h (kk := 1) (by omega) dL_law_1110 dL_law_1111 dL_law_1112 dL_law_1113 dL_law_1114 ?_
  refine tv_if_eq h.1 1122 (sv_r _ _) dL_law_1115 (by decide) (fun b0 => ?_) (fun b0 => ?_)
  · refine tv_iconst h.1 dL_law_1122 ?_
    refine tv_top (show (0 : Int) = t by omega) ?_
    exact la_im2 h hr hc6 hs6 ht2 hf hv K
  · refine tv_iconst h.1 dL_law_1118 ?_
    refine tv_goto h.1 1123 dL_law_1119 (by decide) ?_
    refine tv_top (show (1 : Int) = t by omega) ?_
    exact la_im2 h hr hc6 hs6 ht2 hf hv K
set_option maxRecDepth 100000 in
set_option maxHeartbeats 1000000 in
theorem la_image {p : Program} {l : Launch} {e : Env} {s : State} {m : MethodId} {below : List Frame} {meth : Method} {c : Code} {g : ot_G} {b N cells slots ln : Nat} {xs : Nat → Int32} {Q : State → Prop} {ext : ot_L} {μ : ot_M} {i : Int} (h : lwX p s m meth c g b N xs) (hgz : ot_gz g) (hr : rel μ) (hc6 : cells ≤ 599000) (hs6 : slots ≤ 7000000) (hi : 0 ≤ i ∧ i + 6 ≤ (N : Int)) (K : ∀ μ2 : ot_M, rel μ2 → LW p l e s m below meth c g b Q cells slots (LL ln ext) μ2 1154 i []) : LW p l e s m below meth c g b Q cells slots (LL ln ext) μ 1092 i [] := by
  refine lr_x h dL_law_1092 ?_
  refine lr_s h (kk := 1) (by omega) dL_law_1093 dL_law_1094 dL_law_1095 dL_law_1096 dL_law_1097 ?_
  refine tv_if_eq h.1 1105 (sv_r _ _) dL_law_1098 (by decide) (fun b0 => ?_) (fun b0 => ?_)
  · refine tv_iconst h.1 dL_law_1105 ?_
    exact la_im1 h hr hc6 hs6 hi (t := 0) (Or.inl ⟨b0, rfl⟩) K
  · refine tv_iconst h.1 dL_law_1101 ?_
    refine tv_goto h.1 1106 dL_law_1102 (by decide) ?_
    exact la_im1 h hr hc6 hs6 hi (t := 1) (Or.inr ⟨b0, rfl⟩) K

/-! the law's entry -/
section OTH
variable {p : Program} {l : Launch} {e : Env} {R : Room} {s : State} {m : MethodId} {args : Array Value} {below : List Frame} {meth : Method} {c : Code} {g : ot_G} {nL cells slots : Nat} {Q : State → Prop} {cc : ByteArray} {own : String}
variable {L : ot_L} {μ : ot_M} {pc : Nat} {lv : List (Nat × Value)} {st : List Value} {postv : ot_L → ot_M → Prop}
theorem tv_newO (X : ot_X p s m args c g cc nL own) {idx cn N q : Nat} {C : String} {T : u_T} {L2 : ot_L} {rs : List (Option Nat)} (hq0 : ot_cl[cn]? = some (C, T, N)) (hin : ∀ w ∈ u_ws C T N, w ∈ ot_ws) (hC : ot_CI cn) (hdf : ∀ j, j < N → okT (ot_tf cn j) = true) (hcl : Cond.classLink own idx C ∈ ot_ws) (hins : Cond.instantiable C N ∈ ot_ws) (hini : Cond.initialized C ∈ ot_ws) (hcells : cells + 1 ≤ R.cells) (hslots : slots + N ≤ R.slots) (hq : L.length = q) (hL2 : L2 = L ++ [(cn + 2, 0, rs)]) (hrs : ∀ j : Nat, rs.getD j none = none) (hz : μ q = zZ) (hd : decode cc pc = .ok (.new idx, 3))
    (k : ot_TV p l e R s m args below meth c g nL (cells + 1) (slots + N) Q L2 μ (pc + 3) lv (.ref (g.1.size + q) :: st)) : ot_TV p l e R s m args below meth c g nL cells slots Q L μ pc lv st := by
  intro H locs ls hP hS hl
  subst hq; subst hL2
  have hK := X.2.2.2.2.2.1.1
  have hKn := hK.1 cn _ hq0
  obtain ⟨q', c1, c2, c3, c4⟩ := hC
  have ee : q' = (C, T, N) := Option.some.inj (c1.symm.trans hq0)
  subst ee
  have c2' : N = ot_nf cn := c2
  refine W.newcK X.1 X.2.1 X.2.2.2.1 (X.2.2.2.2.1 _ hcl) (X.2.2.2.2.1 _ hins) (X.2.2.2.2.1 _ hini) rfl hd hcells hslots hKn.2.1 hP.2.1 fun H' kC hkC e1 z1 o1 => ?_
  have hlow : ∀ q, q < g.1.size → H'[q]? = g.1[q]? := fun q hq => (o1 q (by omega)).trans (hP.2.2 q hq)
  refine k H' locs ls ⟨?_, by rw [z1, List.length_append]; show _ = _ + (_ + 1); omega, hlow⟩ ⟨Nat.le_trans hS.1 (by rw [z1, hP.2.1]; omega), fun x h1 h2 => (o1 x (by have := hS.1; rw [hP.2.1] at this; omega)).trans (hS.2.1 x h1 h2), hS.2.2⟩ hl
  rw [← ot_w_push (μ := μ) (e := ot_c g (fun _ => 0) (cn + 2, 0, rs)) (by rw [hz]; rfl) (fun j hj => rfl)]
  refine (hP.1.kept (fun k x hx => o1 x.1 (by have := (hP.1 k x hx).lt; rw [hP.2.1] at this; exact this))).app (fun k x hx => ?_)
  have hzk : k < 1 := (List.getElem?_eq_some_iff.mp hx).1
  rw [show k = 0 by omega] at hx
  cases hx
  refine ⟨_, hq0, (u_born (ot_tf cn) X.2.2.2.2.1 hin hKn hkC e1 c3).to (fun j hj => ?_)⟩
  show defaultValue (ot_tf cn j) = vp_V (ot_fs g.1.size (fun _ => 0) cn rs) j
  unfold vp_V
  rw [List.getD_eq_getElem?_getD, ot_fs_get (by rw [← c2']; exact hj), hrs j]
  exact ot_df _ _ (hdf j hj)
theorem tv_dup (X : ot_X p s m args c g cc nL own) {v : Value} (hv : v.category = 1) (hd : decode cc pc = .ok (.dup, 1)) (k : ot_TV p l e R s m args below meth c g nL cells slots Q L μ (pc + 1) lv (v :: v :: st)) : ot_TV p l e R s m args below meth c g nL cells slots Q L μ pc lv (v :: st) :=
  fun H locs ls hP hS hl => lv_dup X.1 X.2.1 hd hv (k H locs ls hP hS hl)
theorem tv_astore_n (X : ot_X p s m args c g cc nL own) {k0 : Fin 4} {x : Nat} (hd : decode cc pc = .ok (.astore_n k0, 1)) (hn : (k0 : Nat) < nL)
    (k : ot_TV p l e R s m args below meth c g nL cells slots Q L μ (pc + 1) (((k0 : Nat), .ref x) :: lv) st) : ot_TV p l e R s m args below meth c g nL cells slots Q L μ pc lv (.ref x :: st) := by
  intro H locs ls hP hS hl
  exact lv_astore_n X.1 X.2.1 hd rfl hl.has hn rfl (fun ls2 h2 => k H locs ls2 hP hS (ot_HV.put rfl hl h2))
theorem tv_callI (X : ot_X p s m args c g cc nL own) {y : MethodName} {cc1 : ByteArray} {idx n1 d1 mc1 ms1 k0 : Nat} {st0 : List Value} (hm : ot_MN own idx y cc1 n1 0) (hC : ot_C l g y cc1 n1 none d1 mc1 ms1 [.inr k0] L μ (ot_pv postv)) (hst : st0 = .ref (g.1.size + k0) :: st) (h8 : ot_c1 st) (hfr : d1 + 1 ≤ R.frames) (hlo : 8 + (n1 + 11) + 40 * d1 ≤ R.locals) (hmc : cells + mc1 ≤ R.cells) (hms : slots + ms1 ≤ R.slots) (hd : decode cc pc = .ok (.invokespecial idx, 3))
    (k : ∀ (L2 : ot_L) (μ2 : ot_M), postv L2 μ2 → ot_TV p l e R s m args below meth c g nL (cells + mc1) (slots + ms1) Q L2 μ2 (pc + 3) lv st) : ot_TV p l e R s m args below meth c g nL cells slots Q L μ pc lv st0 := by
  intro H locs ls hP hS hl
  subst hst
  have hok := hm.1
  have hG : GoodIn ot_ws (.code y cc1 n1 none :: ot_ws) := ot_good (fun w hw => by
    rcases List.mem_cons.mp hw with hw | hw
    · exact hok w (by simp [hw])
    · exact hw)
  have ok : ∀ w, w ∈ ot_ws → w.before args s = true := X.2.2.2.2.1
  exact ot_backV (rm := ot_rm d1 mc1 ms1) (va_runI (n := 0) (b := g.1.size + k0) (As := []) (rest := st) ⟨X.1, X.2.1, X.2.2.1, X.2.2.2.1, X.2.2.2.2.1⟩ hC (cwI 0 X.2.2.2.2.1 hG rfl rfl rfl (ok _ (hok _ (by simp))) (ok _ (hok _ (by simp))) (ok _ (hok _ (by simp))) hm.2.2.2 hm.2.1 ⟨hfr, hlo⟩) ⟨ot_blind, fun U hU hW => ⟨rfl, ot_preU X hP U hU hW⟩⟩ rfl rfl hl.1 rfl (lv_room h8) hd ⟨hmc, hms⟩) hS hl (fun _ L2 μ2 hp => by obtain ⟨rfl, hp⟩ := hp; exact k L2 μ2 hp)
end OTH
theorem m0M_5 (j : Nat) (hj : j < 64) : (1 : Int) = m0M 5 (j : Int) := by
  have h1 : (0 : Int) ≤ (j : Int) ∧ (j : Int) < 64 := by omega
  simp [m0M, refM, boardK, boardM, ot_up, ot_uc, wr, h1]
theorem m0M_11 (j : Nat) (hj : j < 64) : (-1 : Int) = m0M 11 (j : Int) := by
  have h1 : (0 : Int) ≤ (j : Int) ∧ (j : Int) < 64 := by omega
  simp [m0M, refM, boardK, boardM, ot_up, ot_uc, wr, h1]
set_option maxRecDepth 100000 in
set_option maxHeartbeats 4000000 in
/-- both are made, and the script is gone through -/
theorem law_start {p : Program} {l : Launch} {e : Env} {s : State} {m : MethodId} {below : List Frame} {meth : Method} {c : Code} {g : ot_G} {b N : Nat} {xs : Nat → Int32} (h : lwX p s m meth c g b N xs) (hgz : ot_gz g) (hr0 : meth.sig.returnType = ret) (hlk : meth.locks = false) (hN1 : ∀ U : State, g.2.2.2.2 U g.1 → va_Nw (.methodLinkNest RX8 44 yX3_init "OneThread") U) (hN2 : ∀ U : State, g.2.2.2.2 U g.1 → va_Nw (.methodLinkNest RX9 66 yX4_init "OneThread") U) (hN3 : ∀ U : State, g.2.2.2.2 U g.1 → va_Nw (.methodLinkNest RX4 11 yX3_init "OneThread") U) : ot_TV p l e room_1 s m #[Value.ref b] below meth c g 4 0 0 (lw_Z below #[Value.ref b] s) [] zM 0 [(0, .ref b)] [] := by
  have hNN := h.2.2.2.2
  refine tv_newO h.1 (cn := 9) (q := 0) (rs := [none, none, none, none, none, none, none, none, none, none, none, none, none, none, none]) (L2 := [] ++ [(11, 0, [none, none, none, none, none, none, none, none, none, none, none, none, none, none, none])]) rfl kw_9 kc_9 (by decide) (ot_mem 21 (by decide +kernel) (by decide +kernel)) (ot_mem 22 (by decide +kernel) (by decide +kernel)) (ot_mem 1 (by decide +kernel) (by decide +kernel)) (by decide) (by decide) rfl rfl (rep_none 15) rfl dL_law_0 ?_
  refine tv_dup h.1 rfl dL_law_3 ?_
  refine tv_callI h.1 mL_9 (c_iClass l g zM [] rfl (fun k hk => rfl) hN1 hN2 hN3) rfl (Nat.le_of_ble_eq_true rfl) (by decide) (by decide) (by decide) (by decide) dL_law_4 (fun L1 μ1 hp => ?_)
  obtain ⟨rfl, e1⟩ := hp
  have hz1 : ∀ k, 59 < k → μ1 k = zZ := fun k hk => by
    rw [e1]
    have h0 : k ≠ 0 := by omega
    have e2 : ot_up (boardK (boardM zM 4) 4) 0 12 (-1) k = boardK (boardM zM 4) 4 k := by funext i; simp [ot_up, h0]
    rw [e2, boardK_o (by omega), boardM_o (by omega)]
    rfl
  refine tv_astore_n h.1 (k0 := 1) dL_law_7 (by decide) ?_
  refine tv_newO h.1 (cn := 10) (q := 60) (rs := [none, none, none, none, none, none, none, none, none, none, none, none, none, none, none, none, none, none, none, none, none, none, none, none, none, none, none, none, none, none, none, none, none, none, none, none, none, none, none, none, none, none, none, none, none, none, none, none, none]) rfl kw_10 kc_10 (by decide) (ot_mem 995 (by decide +kernel) (by decide +kernel)) (ot_mem 996 (by decide +kernel) (by decide +kernel)) (ot_mem 12 (by decide +kernel) (by decide +kernel)) (by decide) (by decide) rfl rfl (rep_none 49) (hz1 60 (by decide)) dL_law_8 ?_
  refine tv_dup h.1 rfl dL_law_11 ?_
  refine tv_callI h.1 mL_12 (c_iRef l g μ1 _ rfl (fun k hk => hz1 k (by omega))) rfl (Nat.le_of_ble_eq_true rfl) (by decide) (by decide) (by decide) (by decide) dL_law_12 (fun L2 μ2 hp => ?_)
  obtain ⟨rfl, e2⟩ := hp
  refine tv_astore_n h.1 (k0 := 2) dL_law_15 (by decide) ?_
  refine tv_iconst h.1 dL_law_16 ?_
  refine tv_istore_n h.1 (k0 := 3) dL_law_17 (by decide) ?_
  refine tv_loc [(0, .ref b), (1, .ref (g.1.size + 0)), (2, .ref (g.1.size + 60)), (3, ot_i 0)] ⟨rfl, rfl, rfl, rfl, trivial⟩ ?_
  have em : μ2 = m0M := by rw [e2, e1]; rfl
  rw [em]
  have h18 := law_loop (l := l) (e := e) (below := below) h hgz hr0 hlk 513 0 44 1 [] stM (by omega) (by omega) ⟨rfl, Or.inl rfl, by decide, by decide⟩ rel_start
  have hfin : LW p l e s m below meth c g b (lw_Z below #[Value.ref b] s) (88 + 0) (40000 + 4096 * 0) (LL 44 []) m0M 18 0 [] := by
    refine lr_ext (k_5 44 []) (f := fun _ => 1) (fun j hj => m0M_5 j hj) ?_
    refine lr_ext (k_11 44 []) (f := fun _ => -1) (fun j hj => ?_) ?_
    · rw [ot_ucd (by decide)]
      exact m0M_11 j hj
    · exact h18
  exact lr_widen (by decide) (by decide) hfin

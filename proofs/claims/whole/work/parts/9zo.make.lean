/-! objects made anew -/
def okT (ty : FieldType) : Bool := match ty with
  | .int => true
  | .boolean => true
  | .object _ => true
  | .array _ => true
  | _ => false
theorem ot_df (b : Nat) (ty : FieldType) (h : okT ty = true) : defaultValue ty = ot_f b ty 0 none := by
  cases ty <;> first | rfl | cases h
theorem ot_ap {B t : ot_L} {b k j : Nat} {x : ot_D} (hB : B.length = b) (hk : k = b + j) (h : t[j]? = some x) : (B ++ t)[k]? = some x := by
  subst hk; subst hB
  rw [List.getElem?_append_right (Nat.le_add_right _ _), Nat.add_sub_cancel_left]
  exact h
theorem ot_aps {B t t2 : ot_L} {b k j : Nat} {x : ot_D} (hB : B.length = b) (hk : k = b + j) (h : t2 = t.set j x) : B ++ t2 = (B ++ t).set k x := by
  subst hk; subst hB; subst h
  rw [List.set_append_right _ _ (Nat.le_add_right _ _), Nat.add_sub_cancel_left]
theorem ot_apl {B t : ot_L} {b k n : Nat} (hB : B.length = b) (ht : t.length = n) (hk : b + n = k) : (B ++ t).length = k := by
  rw [List.length_append, hB, ht, hk]
def zZ : Int → Int := fun _ => 0
theorem uc_zZ {μ : ot_M} {k : Nat} (h : μ k = zZ) : ot_uc μ k (fun _ => 0) = μ := by
  funext q
  by_cases w : q = k
  · subst w; simp [ot_uc, h]; rfl
  · simp [ot_uc, w]
section OTM
variable {p : Program} {l : Launch} {e : Env} {R : Room} {s : State} {m : MethodId} {args : Array Value} {below : List Frame} {meth : Method} {c : Code} {g : ot_G} {nL cells slots : Nat} {Q : State → Prop} {cc : ByteArray} {own : String}
variable {L : ot_L} {μ : ot_M} {pc : Nat} {lv : List (Nat × ot_V)} {st : List ot_V} {Pf : Option Int → ot_L → ot_M → Prop} {postv : ot_L → ot_M → Prop}
theorem tt_newB (X : ot_X p s m args c g cc nL own) {x : Int} {n q : Nat} {L2 : ot_L} {atype : ArrayType} {kd : Nat} (hty : (atype = .int ∧ kd = 0) ∨ (atype = .boolean ∧ kd = 1)) (hA : Cond.arrayClass (newarray.typeOf atype) ∈ ot_ws) (hx : x = (n : Int)) (hn : n ≤ 100000) (hcells : cells + 1 ≤ R.cells) (hslots : slots + n ≤ R.slots) (hq : L.length = q) (hL2 : L2 = L ++ [(kd, n, [])]) (hz : μ q = zZ) (hd : decode cc pc = .ok (.newarray atype, 2))
    (k : ot_T p l e R s m args below meth c g nL (cells + 1) (slots + n) Q L2 μ (pc + 2) lv (.inr q :: st)) : ot_T p l e R s m args below meth c g nL cells slots Q L μ pc lv (.inl x :: st) := by
  subst hq; subst hL2
  refine tt_newA X hty hA hx hn hcells hslots hd ?_
  rw [uc_zZ hz]
  exact k
theorem tt_newO (X : ot_X p s m args c g cc nL own) {idx cn N q : Nat} {C : String} {T : u_T} {L2 : ot_L} {rs : List (Option Nat)} (hq0 : ot_cl[cn]? = some (C, T, N)) (hin : ∀ w ∈ u_ws C T N, w ∈ ot_ws) (hC : ot_CI cn) (hdf : ∀ j, j < N → okT (ot_tf cn j) = true) (hcl : Cond.classLink own idx C ∈ ot_ws) (hins : Cond.instantiable C N ∈ ot_ws) (hini : Cond.initialized C ∈ ot_ws) (hcells : cells + 1 ≤ R.cells) (hslots : slots + N ≤ R.slots) (hq : L.length = q) (hL2 : L2 = L ++ [(cn + 2, 0, rs)]) (hrs : ∀ j : Nat, rs.getD j none = none) (hz : μ q = zZ) (hd : decode cc pc = .ok (.new idx, 3))
    (k : ot_T p l e R s m args below meth c g nL (cells + 1) (slots + N) Q L2 μ (pc + 3) lv (.inr q :: st)) : ot_T p l e R s m args below meth c g nL cells slots Q L μ pc lv st := by
  intro H locs ls hP hS hl
  subst hq; subst hL2
  have hK := X.2.2.2.2.2.1.1
  have hKn := hK.1 cn _ hq0
  obtain ⟨q', c1, c2, c3, c4⟩ := hC
  have ee : q' = (C, T, N) := Option.some.inj (c1.symm.trans hq0)
  subst ee
  have c2' : N = ot_nf cn := c2
  refine W.newcK X.1 X.2.1 X.2.2.2.1 (X.2.2.2.2.1 _ hcl) (X.2.2.2.2.1 _ hins) (X.2.2.2.2.1 _ hini) rfl hd hcells hslots hKn.2.1 hP.2.1 fun H' kC hkC e1 z1 o1 => ?_
  have hlow : ∀ q, q < g.1.size → H'[q]? = g.1[q]? := fun q hq => (o1 q (by omega)).trans (hP.2.2 q hq)
  refine k H' locs ls ⟨?_, by rw [z1, List.length_append]; show _ = _ + (_ + 1); omega, hlow⟩ ⟨Nat.le_trans hS.1 (by rw [z1, hP.2.1]; omega), fun x h1 h2 => (o1 x (by have := hS.1; rw [hP.2.1] at this; omega)).trans (hS.2.1 x h1 h2), hS.2.2⟩ hl
  rw [← ot_w_push (μ := μ) (e := ot_c g (fun _ => 0) (cn + 2, 0, rs)) (by rw [hz]; rfl) (fun j hj => rfl)]
  refine (hP.1.kept (fun k x hx => o1 x.1 (by have := (hP.1 k x hx).lt; rw [hP.2.1] at this; exact this))).app (fun k x hx => ?_)
  have hzk : k < 1 := (List.getElem?_eq_some_iff.mp hx).1
  rw [show k = 0 by omega] at hx
  cases hx
  refine ⟨_, hq0, (u_born (ot_tf cn) X.2.2.2.2.1 hin hKn hkC e1 c3).to (fun j hj => ?_)⟩
  show defaultValue (ot_tf cn j) = vp_V (ot_fs g.1.size (fun _ => 0) cn rs) j
  unfold vp_V
  rw [List.getD_eq_getElem?_getD, ot_fs_get (by rw [← c2']; exact hj), hrs j]
  exact ot_df _ _ (hdf j hj)
theorem tt_objI (X : ot_X p s m args c g cc nL own) {idx k0 d mc ms : Nat} (hR : R = ot_rm (d + 1) mc ms) (hlink : Cond.methodLink own idx Lib.objectInit ∈ ot_ws) (hinst : Cond.instanceMethod Lib.objectInit ∈ ot_ws) (hcode : Cond.code Lib.objectInit ⟨#[0xb1]⟩ 1 none ∈ ot_ws) (h8 : st.length ≤ 8) (hd : decode cc pc = .ok (.invokespecial idx, 3))
    (k : ot_T p l e R s m args below meth c g nL cells slots Q L μ (pc + 3) lv st) : ot_T p l e R s m args below meth c g nL cells slots Q L μ pc lv (.inr k0 :: st) := by
  intro H locs ls hP hS hl
  subst hR
  have hts := X.2.2.2.2.1
  refine W.objInit X.1 X.2.1 X.2.2.2.1 (hts _ hlink) (hts _ hinst) (hts _ hcode) rfl (hl.1.trans X.2.2.1.symm) rfl hd (by show 1 ≤ d + 1; omega) ?_ (k H locs ls hP hS hl)
  have h1 := lv_room (m := m) (pc := pc) (ls := ls) (st := st.map (ot_v g.1.size)) (rest := (.ref (g.1.size + k0) :: st.map (ot_v g.1.size) : List Value)) (by rw [ot_sum]; exact h8)
  show _ + 12 ≤ 40 * (d + 1)
  exact Nat.le_trans (Nat.add_le_add_right h1 12) (show 8 + 12 ≤ 40 * (d + 1) by omega)
/-- a private constructor of a nest mate -/
def ot_MQ (y : MethodName) (cc : ByteArray) (n : Nat) (na : Nat) : Prop := (∀ w ∈ ([.instanceMethod y, .initialized y.cls, .code y cc n none] : List Cond), w ∈ ot_ws) ∧ (y.cls ≠ "java/lang/invoke/MethodHandle" ∧ y.cls ≠ "java/lang/invoke/VarHandle" ∧ (parseMethodDescriptor y.desc).map (fun d => d.parameters.length) = some na) ∧ n ≤ 21 ∧ y.name = "<init>"
theorem tt_callN (X : ot_X p s m args c g cc nL own) {y : MethodName} {host : String} {cc1 : ByteArray} {idx n1 na d d1 mc0 ms0 mc1 ms1 k0 : Nat} {as st0 : List ot_V} (hR : R = ot_rm d mc0 ms0) (hN : ∀ U : State, g.2.2.2.2 U g.1 → va_Nw (.methodLinkNest own idx y host) U) (hm : ot_MQ y cc1 n1 na) (hC : ot_C l g y cc1 n1 none d1 mc1 ms1 (.inr k0 :: as) L μ (ot_pv postv)) (hst : st0 = as.reverse ++ .inr k0 :: st) (hn : as.length = na) (h8 : st.length ≤ 8) (hdd : d1 + 1 ≤ d) (hmc : cells + mc1 ≤ mc0) (hms : slots + ms1 ≤ ms0) (hd : decode cc pc = .ok (.invokespecial idx, 3))
    (k : ∀ (L2 : ot_L) (μ2 : ot_M), postv L2 μ2 → ot_T p l e R s m args below meth c g nL (cells + mc1) (slots + ms1) Q L2 μ2 (pc + 3) lv st) : ot_T p l e R s m args below meth c g nL cells slots Q L μ pc lv st0 := by
  intro H locs ls hP hS hl
  subst hst; subst hR
  have hok := hm.1
  have hG : GoodIn ot_ws (.code y cc1 n1 none :: ot_ws) := ot_good (fun w hw => by
    rcases List.mem_cons.mp hw with hw | hw
    · exact hok w (by simp [hw])
    · exact hw)
  have ok : ∀ w, w ∈ ot_ws → w.before args s = true := X.2.2.2.2.1
  refine ot_back (rm := ot_rm d1 mc1 ms1) (va_runIN (host := host) (n := na) (b := g.1.size + k0) (As := as.map (ot_v g.1.size)) (rest := st.map (ot_v g.1.size)) ⟨X.1, X.2.1, X.2.2.1, X.2.2.2.1, X.2.2.2.2.1⟩ hC ⟨va_cnB na X.2.2.2.2.1 hG rfl rfl rfl (hN s X.2.2.2.2.2.1.2) (ok _ (hok _ (by simp))) hm.2.1 ⟨hdd, ?_⟩, hm.2.2.2, ok _ (hok _ (by simp))⟩ ⟨ot_blind, fun U hU hW => ⟨rfl, ot_preU X hP U hU hW⟩⟩ rfl (by rw [List.length_map]; exact hn) hl.1 (by simp [ot_v]) (lv_room (by rw [ot_sum]; exact h8)) hd ⟨hmc, hms⟩) hS hl (fun _ L2 μ2 hp => by obtain ⟨rfl, hp⟩ := hp; exact k L2 μ2 hp)
  have := hm.2.2.1
  simp only [ot_rm]
  omega
/-- a final field that is a reference -/
theorem tt_putR (X : ot_X p s m args c g cc nL own) {idx k0 cn n j q : Nat} {ji : Int} {rs rs2 : List (Option Nat)} {L2 : ot_L} (hin : meth.name = "<init>") (hf : ot_FI own idx cn j ji) (hC : ot_CI cn) (hk : L[k0]? = some (cn + 2, n, rs)) (hj : j < ot_nf cn) (hfin : ∀ q : vw_C, ot_cl[cn]? = some q → (q.2.1 j).2.2.2 = true ∧ (q.2.1 j).1 = own)
    (hty : ot_tf cn j ≠ .int ∧ ot_tf cn j ≠ .boolean) (hn : ∀ v : Value, narrow (ot_tf cn j) v = v) (hfit : ∀ a : Nat, fits (ot_tf cn j) (.ref a) = true) (hL : L2 = L.set k0 (cn + 2, n, rs2)) (h1 : rs2.getD j none = some q) (h2 : ∀ i : Nat, i ≠ j → rs2.getD i none = rs.getD i none) (hd : decode cc pc = .ok (.putfield idx, 3))
    (k : ot_T p l e R s m args below meth c g nL cells slots Q L2 μ (pc + 3) lv st) : ot_T p l e R s m args below meth c g nL cells slots Q L μ pc lv (.inr q :: .inr k0 :: st) := by
  refine tt_putF X (rs2 := rs2) (μ2 := μ) hin hf hC hk hj hfin (hn _) (hfit _) hL ?_ (fun i hi => ⟨rfl, h2 i hi⟩) (fun _ _ => rfl) hd k
  rw [h1]
  unfold ot_f
  split
  · rename_i w; exact absurd w hty.1
  · rename_i w; exact absurd w hty.2
  · rfl
end OTM

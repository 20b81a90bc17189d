/-! what is made anew -/
section OT9
variable {p : Program} {l : Launch} {e : Env} {R : Room} {s : State} {m : MethodId} {args : Array Value} {below : List Frame} {meth : Method} {c : Code} {g : ot_G} {nL cells slots : Nat} {Q : State → Prop} {cc : ByteArray} {own : String}
variable {L : ot_L} {μ : ot_M} {pc : Nat} {lv : List (Nat × ot_V)} {st : List ot_V}
theorem tt_lay {L' : ot_L} (h : L = L') (k : ot_T p l e R s m args below meth c g nL cells slots Q L' μ pc lv st) : ot_T p l e R s m args below meth c g nL cells slots Q L μ pc lv st := by rw [h]; exact k
theorem tt_newA (X : ot_X p s m args c g cc nL own) {x : Int} {n : Nat} {atype : ArrayType} {kd : Nat} (hty : (atype = .int ∧ kd = 0) ∨ (atype = .boolean ∧ kd = 1)) (hA : Cond.arrayClass (newarray.typeOf atype) ∈ ot_ws) (hx : x = (n : Int)) (hn : n ≤ 100000) (hcells : cells + 1 ≤ R.cells) (hslots : slots + n ≤ R.slots) (hd : decode cc pc = .ok (.newarray atype, 2))
    (k : ot_T p l e R s m args below meth c g nL (cells + 1) (slots + n) Q (L ++ [(kd, n, [])]) (ot_uc μ L.length (fun _ => 0)) (pc + 2) lv (.inr L.length :: st)) : ot_T p l e R s m args below meth c g nL cells slots Q L μ pc lv (.inl x :: st) := by
  intro H locs ls hP hS hl
  subst hx
  have hK := X.2.2.2.2.2.1.1
  have hb : n * componentBytes (newarray.typeOf atype) ≤ 536870912 := by
    rcases hty with ⟨rfl, _⟩ | ⟨rfl, _⟩
    · show n * 4 ≤ _; omega
    · show n * 1 ≤ _; omega
  refine va_newaK X.1 X.2.1 (X.2.2.2.2.1 _ hA) rfl hd rfl (fun q => ?_) (ot_cl_of (z := (n : Int)) (by omega) (by omega)) (by rw [Int.toNat_natCast]; exact hb) hcells (by rw [Int.toNat_natCast]; exact hslots) hP.2.1 fun H' cA e1 z1 o1 hAr hNm => ?_
  · rw [ot_0, ot_lt ⟨by omega, by omega, by omega, by omega⟩] at q
    omega
  rw [Int.toNat_natCast] at e1 ⊢
  have hcA : cA = if kd = 0 then g.2.2.1 else g.2.2.2.1 := by
    rcases hty with ⟨rfl, rfl⟩ | ⟨rfl, rfl⟩
    · have := (hK.2 0 (g.2.2.1, .int) rfl).2
      exact Option.some.inj (hNm.symm.trans this)
    · have := (hK.2 1 (g.2.2.2.1, .boolean) rfl).2
      exact Option.some.inj (hNm.symm.trans this)
  have hlow : ∀ q, q < g.1.size → H'[q]? = g.1[q]? := fun q hq => (o1 q (by omega)).trans (hP.2.2 q hq)
  refine k H' locs ls ⟨?_, by rw [z1, List.length_append]; show _ = _ + (_ + 1); omega, hlow⟩ ⟨Nat.le_trans hS.1 (by rw [z1, hP.2.1]; omega), fun x h1 h2 => (o1 x (by have := hS.1; rw [hP.2.1] at this; omega)).trans (hS.2.1 x h1 h2), hS.2.2⟩ hl
  rw [← ot_w_push (μ := μ) (e := ot_c g (fun _ => 0) (kd, n, [])) (by simp [ot_uc]) (fun j hj => by simp [ot_uc, Nat.ne_of_lt hj])]
  refine (hP.1.kept (fun k x hx => o1 x.1 (by have := (hP.1 k x hx).lt; rw [hP.2.1] at this; exact this))).app (fun k x hx => ?_)
  have hz : k < 1 := (List.getElem?_eq_some_iff.mp hx).1
  rw [show k = 0 by omega] at hx
  cases hx
  rcases hty with ⟨rfl, rfl⟩ | ⟨rfl, rfl⟩
  · show H'[g.1.size + L.length]? = some (vp_cell _ _)
    rw [e1, hcA]
    rfl
  · show H'[g.1.size + L.length]? = some (vp_cell _ _)
    rw [e1, hcA]
    rfl
theorem tt_putl (X : ot_X p s m args c g cc nL own) {idx k0 cn n j q : Nat} {ji : Int} {rs rs2 : List (Option Nat)} {L2 : ot_L} (hf : ot_FI own idx cn j ji) (hC : ot_CI cn) (hk : L[k0]? = some (cn + 2, n, rs)) (hj : j < ot_nf cn) (hfin : ∀ q : vw_C, ot_cl[cn]? = some q → (q.2.1 j).2.2.2 = false)
    (hty : ot_tf cn j ≠ .int ∧ ot_tf cn j ≠ .boolean) (hn : ∀ v : Value, narrow (ot_tf cn j) v = v) (hfit : ∀ a : Nat, fits (ot_tf cn j) (.ref a) = true) (hL : L2 = L.set k0 (cn + 2, n, rs2)) (h1 : rs2.getD j none = some q) (h2 : ∀ i : Nat, i ≠ j → rs2.getD i none = rs.getD i none) (hd : decode cc pc = .ok (.putfield idx, 3))
    (k : ot_T p l e R s m args below meth c g nL cells slots Q L2 μ (pc + 3) lv st) : ot_T p l e R s m args below meth c g nL cells slots Q L μ pc lv (.inr q :: .inr k0 :: st) := by
  refine tt_put X (rs2 := rs2) (μ2 := μ) hf hC hk hj hfin (hn _) (hfit _) hL ?_ (fun i hi => ⟨rfl, h2 i hi⟩) (fun _ _ => rfl) hd k
  rw [h1]
  unfold ot_f
  split
  · rename_i w; exact absurd w hty.1
  · rename_i w; exact absurd w hty.2
  · rfl
end OT9
theorem LL_len (ln : Nat) (ext : ot_L) : (LL ln ext).length = 88 + ext.length := by
  unfold LL
  simp only [List.length_append, List.length_cons, List.length_nil]
  try omega
theorem LL_push (ln : Nat) (ext : ot_L) (d : ot_D) : LL ln ext ++ [d] = LL ln (ext ++ [d]) := rfl
theorem LL_ln (ln ln2 : Nat) (ext : ot_L) : LL ln2 ext = (LL ln ext).set 41 (7, 0, [some 1, some 42, some 43, some ln2, none, none, none]) := rfl
theorem LL_at (ln : Nat) (ext : ot_L) (d : ot_D) : (LL ln (ext ++ [d]))[88 + ext.length]? = some d := by
  rw [← LL_push, ← LL_len ln ext, List.getElem?_append_right (Nat.le_refl _), Nat.sub_self]
  rfl
/-- the cell of the least lengths -/
def gLn (ln nl : Nat) (ext : ot_L) : Prop := (LL ln ext)[ln]? = some (0, nl, []) ∧ (ln = 44 ∨ 88 ≤ ln) ∧ 1 ≤ nl ∧ nl ≤ 4096

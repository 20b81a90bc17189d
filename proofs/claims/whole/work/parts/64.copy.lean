/-! System.arraycopy over the ledger -/
def cpy (f g : Int → Int) (sp dp n : Int) : Int → Int := fun j => if dp ≤ j ∧ j < dp + n then f (sp + (j - dp)) else g j
section OT
variable {p : Program} {l : Launch} {e : Env} {s : State} {m : MethodId} {args : Array Value} {below : List Frame} {meth : Method} {c : Code} {g : ot_G} {nL slots d mc ms : Nat} {Q : State → Prop} {cc : ByteArray} {own : String}
variable {L : ot_L} {μ : ot_M} {pc : Nat} {lv : List (Nat × ot_V)} {st : List ot_V}
theorem tt_copy (X : ot_X p s m args c g cc nL own) (hz : s.heap.size = g.1.size + L.length) {idx k0 k1 n0 n1 kd : Nat} {rs0 rs1 : List (Option Nat)} {sp dp n : Int} (hlink : Cond.methodLink own idx arraycopyName ∈ ot_ws) (hk0 : L[k0]? = some (kd, n0, rs0)) (hk1 : L[k1]? = some (kd, n1, rs1)) (hkd : kd = 0 ∨ (kd = 1 ∧ ∀ j, sp ≤ j → j < sp + n → μ k0 j = 0 ∨ μ k0 j = 1)) (hi : 0 ≤ sp ∧ 0 ≤ dp ∧ 0 ≤ n ∧ sp + n ≤ n0 ∧ dp + n ≤ n1 ∧ sp + n ≤ 2147483647 ∧ dp + n ≤ 2147483647) (hf : 1 ≤ d) (hl : st.length + (nativeFrameWords "java/lang/System" "arraycopy" 5 + 11) ≤ 40 * d) (hd : decode cc pc = .ok (.invokestatic idx, 3))
    (k : ot_T p l e (ot_rm d mc ms) s m args below meth c g nL 0 slots Q L (ot_uc μ k1 (cpy (μ k0) (μ k1) sp dp n)) (pc + 3) lv st) : ot_T p l e (ot_rm d mc ms) s m args below meth c g nL 0 slots Q L μ pc lv (.inl n :: .inl dp :: .inr k1 :: .inl sp :: .inr k0 :: st) := by
  intro H locs ls hP hS hl2
  have ha0 := ot_w_at (g := g) (μ := μ) hk0
  have ha1 := ot_w_at (g := g) (μ := μ) hk1
  have hK := X.2.2.2.2.2.1.1
  have hw := X.2.2.2.2.1
  have hsp : (Int32.ofInt sp).toNatClampNeg = sp.toNat := ot_cl_of (by omega) (by omega)
  have hdp : (Int32.ofInt dp).toNatClampNeg = dp.toNat := ot_cl_of (by omega) (by omega)
  have hnn : (Int32.ofInt n).toNatClampNeg = n.toNat := ot_cl_of (by omega) (by omega)
  have hneg : ∀ {z : Int}, 0 ≤ z → z ≤ 2147483647 → ¬ Int32.ofInt z < 0 := by
    intro z h1 h2 h3
    rw [ot_0, ot_lt ⟨by omega, h2, by omega, by omega⟩] at h3
    omega
  have hlt : k1 < L.length := (List.getElem?_eq_some_iff.mp hk1).1
  have hcat : ((st.map (ot_v g.1.size)).map fun v => v.category).sum = st.length := by
    clear hl k
    induction st with
    | nil => rfl
    | cons a t ih =>
      rw [List.map_cons, List.map_cons, List.sum_cons, ih, ot_cat, List.length_cons]
      omega
  have hcell : ∀ (kk : Nat) (f : Int → Int) (nn : Nat) (rs : List (Option Nat)), kd = 0 ∨ kd = 1 → ot_c g f (kd, nn, rs) = .inl ((if kd = 0 then g.2.2.1 else g.2.2.2.1), nn, .inl (fun j => Int32.ofInt (f (j : Int)))) := by
    intro kk f nn rs h
    rcases h with h | h <;> subst h <;> rfl
  have hkd' : kd = 0 ∨ kd = 1 := by omega
  rw [hcell k0 _ _ _ hkd'] at ha0
  rw [hcell k1 _ _ _ hkd'] at ha1
  have hty : (ot_tys g)[kd]? = some ((if kd = 0 then g.2.2.1 else g.2.2.2.1), (if kd = 0 then FieldType.int else FieldType.boolean)) := by
    rcases hkd' with h | h <;> subst h <;> rfl
  refine va_copyi (H0 := H) (A := ot_A g) (R := ot_rm d mc ms) X.1 X.2.1 (by rw [X.2.2.1]; exact hl2.1.symm) X.2.2.2.1 (hw _ hlink) (hw _ (ot_mem 546 (by decide +kernel) (by decide +kernel))) (hw _ (ot_mem 545 (by decide +kernel) (by decide +kernel))) (hw _ (ot_mem 14 (by decide +kernel) (by decide +kernel))) hK hP.1 (ot_w_D g L μ) ⟨Nat.le_refl _, fun _ _ _ => rfl, hS.2.2⟩ k0 k1 kd kd ha0 ha1 hty hty (by rcases hkd' with h | h <;> subst h <;> rfl) (hneg (by omega) (by omega)) (hneg (by omega) (by omega)) (hneg (by omega) (by omega)) (by rw [hsp, hnn]; omega) (by rw [hdp, hnn]; omega) ?_ hf (by show _ ≤ 40 * d; rw [hcat]; exact hl) hd ?_
  · intro i hi2
    rw [hsp]
    rw [hnn] at hi2
    rcases hkd with h | ⟨h, h3⟩
    · subst h; rfl
    · subst h
      show fits .boolean (.int (Int32.ofInt (μ k0 ((sp.toNat + i : Nat) : Int)))) = true
      rcases h3 ((sp.toNat + i : Nat) : Int) (by omega) (by omega) with q | q <;> rw [q] <;> decide
  · intro H1 locs1 hP1 _ hS1
    have hset : (ot_w g L μ).set k1 (g.1.size + k1, .inl ((if kd = 0 then g.2.2.1 else g.2.2.2.1), n1, .inl (va_cpy (fun j => Int32.ofInt (μ k0 (j : Int))) (fun j => Int32.ofInt (μ k1 (j : Int))) (Int32.ofInt sp).toNatClampNeg (Int32.ofInt dp).toNatClampNeg (Int32.ofInt n).toNatClampNeg))) = ot_w g L (ot_uc μ k1 (cpy (μ k0) (μ k1) sp dp n)) := by
      refine ot_w_set hlt (ot_set_self hk1) ?_ (fun j hj => by simp [ot_uc, hj])
      rw [hcell k1 _ _ _ hkd', hsp, hdp, hnn]
      congr 4
      funext j
      rw [show ot_uc μ k1 (cpy (μ k0) (μ k1) sp dp n) k1 = cpy (μ k0) (μ k1) sp dp n by simp [ot_uc]]
      unfold va_cpy cpy
      by_cases hj : dp.toNat ≤ j ∧ j < dp.toNat + n.toNat
      · rw [if_pos hj, if_pos (by omega)]
        show _ = Int32.ofInt (μ k0 ((sp.toNat + (j - dp.toNat) : Nat) : Int))
        rw [show ((sp.toNat + (j - dp.toNat) : Nat) : Int) = sp + ((j : Int) - dp) by omega]
      · rw [if_neg hj, if_neg (by omega)]
    rw [hset] at hP1
    intro T hT XS
    have h1 := XS.heapSize
    rw [hT, hz] at h1
    have h2 : H1.size = g.1.size + L.length := by
      have h3 := hS1.1
      have h4 := hP.2.1
      omega
    refine k H1 locs1 ls ⟨hP1, h2, fun q hq => ?_⟩ ⟨by have := hS.1; have := hS1.1; omega, fun q q1 q2 => ?_, hS1.2.2⟩ hl2 T hT XS
    · rw [hS1.2.1 q (by have := hP.2.1; omega) (fun w => absurd w (by unfold ot_A; omega))]
      exact hP.2.2 q hq
    · rw [hS1.2.1 q (by have := hS.1; omega) q2]
      exact hS.2.1 q q1 q2
end OT
theorem cpy_wr {f g : Int → Int} {n : Int} : cpy f g 0 0 n = wr n g f := by
  funext j
  unfold cpy wr
  rw [show 0 + (j - 0) = j by omega, show (0 : Int) + n = n by omega]

/-! THE LAW'S BODY: its rows -/
def sv (xs : Nat → Int32) (j : Int) : Int := (xs j.toNat).toInt
theorem sv_r (xs : Nat → Int32) (j : Int) : -2147483648 ≤ sv xs j ∧ sv xs j ≤ 2147483647 := by
  have h1 := Int32.minValue_le_toInt (xs j.toNat)
  have h2 := Int32.toInt_le (xs j.toNat)
  exact ⟨h1, h2⟩
def lwX (p : Program) (s : State) (m : MethodId) (meth : Method) (c : Code) (g : ot_G) (b N : Nat) (xs : Nat → Int32) : Prop := ot_X p s m #[Value.ref b] c g cL_law 4 RL ∧ va_X b N xs s s.heap ∧ b < s.heap.size ∧ g.1 = s.heap ∧ N ≤ 3072
section OTL
variable {p : Program} {l : Launch} {e : Env} {s : State} {m : MethodId} {below : List Frame} {meth : Method} {c : Code} {g : ot_G} {b N cells slots : Nat} {xs : Nat → Int32} {Q : State → Prop}
variable {L : ot_L} {μ : ot_M} {pc : Nat} {i : Int} {st : List Value} {post : Int → ot_L → ot_M → Prop}
def LW (p : Program) (l : Launch) (e : Env) (s : State) (m : MethodId) (below : List Frame) (meth : Method) (c : Code) (g : ot_G) (b : Nat) (Q : State → Prop) (cells slots : Nat) (L : ot_L) (μ : ot_M) (pc : Nat) (i : Int) (st : List Value) : Prop := ot_TV p l e room_1 s m #[Value.ref b] below meth c g 4 cells slots Q L μ pc [(0, .ref b), (1, .ref (g.1.size + 0)), (2, .ref (g.1.size + 60)), (3, ot_i i)] st
theorem lr_x (h : lwX p s m meth c g b N xs) (hd : decode cL_law pc = .ok (.aload_n 1, 1)) (k : LW p l e s m below meth c g b Q cells slots L μ (pc + 1) i (.ref (g.1.size + 0) :: st)) : LW p l e s m below meth c g b Q cells slots L μ pc i st := tv_aload_n h.1 (k0 := 1) rfl hd k
theorem lr_m (h : lwX p s m meth c g b N xs) (hd : decode cL_law pc = .ok (.aload_n 2, 1)) (k : LW p l e s m below meth c g b Q cells slots L μ (pc + 1) i (.ref (g.1.size + 60) :: st)) : LW p l e s m below meth c g b Q cells slots L μ pc i st := tv_aload_n h.1 (k0 := 2) rfl hd k
theorem lr_ld (h : lwX p s m meth c g b N xs) {x : Int} (hi : 0 ≤ x ∧ x < (N : Int)) (hd : decode cL_law pc = .ok (.iaload, 1)) (k : LW p l e s m below meth c g b Q cells slots L μ (pc + 1) i (ot_i (sv xs x) :: st)) : LW p l e s m below meth c g b Q cells slots L μ pc i (ot_i x :: .ref b :: st) := by
  intro H locs ls hP hS hl
  obtain ⟨X, hX, hb, hg, hN⟩ := h
  refine va_sld (A := ot_A g) X.1 X.2.1 hX hb (by unfold ot_A; rw [hg]; omega) hS (ot_in ⟨hi.1, hi.2, by omega⟩) hd ?_
  rw [ot_cl_of hi.1 (by omega)]
  have hk := k H locs ls hP hS hl
  have e1 : ot_i (sv xs x) = .int (xs x.toNat) := by
    show Value.int (Int32.ofInt (xs x.toNat).toInt) = _
    rw [Int32.ofInt_toInt]
  rw [e1] at hk
  exact hk
theorem lr_s (h : lwX p s m meth c g b N xs) {kk : Int} (hi : 0 ≤ i + kk ∧ i + kk < (N : Int)) (d0 : decode cL_law pc = .ok (.aload_n 0, 1)) (d1 : decode cL_law (pc + 1) = .ok (.iload_n 3, 1)) (d2 : decode cL_law (pc + 2) = .ok (.iconst kk, 1)) (d3 : decode cL_law (pc + 3) = .ok (.iadd, 1)) (d4 : decode cL_law (pc + 4) = .ok (.iaload, 1)) (k : LW p l e s m below meth c g b Q cells slots L μ (pc + 5) i (ot_i (sv xs (i + kk)) :: st)) : LW p l e s m below meth c g b Q cells slots L μ pc i st :=
  tv_aload_n h.1 (k0 := 0) rfl d0 (tv_iload_n h.1 (k0 := 3) rfl d1 (tv_iconst h.1 d2 (tv_iadd h.1 d3 (lr_ld h hi d4 k))))
theorem lr_call (h : lwX p s m meth c g b N xs) {y : MethodName} {cc1 : ByteArray} {ret : Option FieldType} {idx n1 na d1 mc1 ms1 k0 cn n : Nat} {rs : List (Option Nat)} {as : List ot_V} {st0 : List Value} (hm : ot_MV RL idx y cc1 n1 ret na) (hC : ot_C l g y cc1 n1 ret d1 mc1 ms1 (.inr k0 :: as) L μ (ot_pi post)) (hk : L[k0]? = some (cn + 2, n, rs)) (hq : ∃ q : vw_C, ot_cl[cn]? = some q ∧ q.1 = y.cls) (hst : st0 = (as.map (ot_v g.1.size)).reverse ++ .ref (g.1.size + k0) :: st) (hn : as.length = na) (h8 : ot_c1 st) (hdd : d1 ≤ 100) (hmc : cells + mc1 ≤ 600000) (hms : slots + ms1 ≤ 7302250) (hd : decode cL_law pc = .ok (.invokevirtual idx, 3))
    (k : ∀ (z : Int) (L2 : ot_L) (μ2 : ot_M), post z L2 μ2 → LW p l e s m below meth c g b Q (cells + mc1) (slots + ms1) L2 μ2 (pc + 3) i (ot_i z :: st)) : LW p l e s m below meth c g b Q cells slots L μ pc i st0 := by
  intro H locs ls hP hS hl
  obtain ⟨X, hX, hb, hg, hN⟩ := h
  subst hst
  have hok := hm.1
  have hG : GoodIn ot_ws (wsV RL idx y.cls y (.code y cc1 n1 ret :: ot_ws)) := ot_good (fun w hw => by
    unfold wsV at hw
    simp only [List.mem_append, List.mem_cons, List.not_mem_nil, or_false] at hw
    rcases hw with hw | hw | hw
    · exact hok w (by simp only [List.mem_cons]; rcases hw with h | h | h | h <;> simp [h])
    · exact hok w (by simp [hw])
    · exact hw)
  obtain ⟨q, q1, q2⟩ := hq
  have hrc := va_recv X.2.2.2.2.2.1.1 hP.1 q1 (ot_w_at hk)
  rw [q2] at hrc
  refine ot_backV (rm := ot_rm d1 mc1 ms1) (va_runV (C := y.cls) (n := na) (b := g.1.size + k0) (As := as.map (ot_v g.1.size)) (rest := st) ⟨X.1, X.2.1, X.2.2.1, X.2.2.2.1, X.2.2.2.2.1⟩ hC (cwV na X.2.2.2.2.1 hG rfl rfl rfl ⟨rfl, hm.2.1⟩ ⟨?_, ?_⟩) ⟨ot_blind, hrc, fun U hU hW => ⟨rfl, ot_preU X hP U hU hW⟩⟩ rfl (by rw [List.length_map]; exact hn) hl.1 rfl (lv_room h8) hd ⟨hmc, hms⟩) hS hl (fun r L2 μ2 hp => by obtain ⟨z, rfl, hp⟩ := hp; exact k z L2 μ2 hp)
  · show d1 + 1 ≤ 2048
    omega
  · have := hm.2.2
    show 8 + (n1 + 11) + 40 * d1 ≤ 84000
    omega
theorem lr_eq (h : lwX p s m meth c g b N xs) {x y off : Int} (hxy : x = y) (hd : decode cL_law pc = .ok (.if_icmp .eq off, 3)) (ht : (pc : Int) + off = ((1154 : Nat) : Int)) (k : LW p l e s m below meth c g b Q cells slots L μ 1154 i st) : LW p l e s m below meth c g b Q cells slots L μ pc i (ot_i y :: ot_i x :: st) := by
  intro H locs ls hP hS hl
  subst hxy
  exact lv_icmp_eq h.1.1 h.1.2.1 hd ht (fun _ => k H locs ls hP hS hl) (fun q => absurd rfl q)
theorem lr_ext {k0 n : Nat} {rs : List (Option Nat)} {f : Int → Int} (hk : L[k0]? = some (0, n, rs)) (hf : ∀ j : Nat, j < n → f (j : Int) = μ k0 (j : Int)) (k : LW p l e s m below meth c g b Q cells slots L (ot_uc μ k0 f) pc i st) : LW p l e s m below meth c g b Q cells slots L μ pc i st := tv_ext hk hf k
theorem lr_widen {cells2 slots2 : Nat} (h1 : cells ≤ cells2) (h2 : slots ≤ slots2) (k : LW p l e s m below meth c g b Q cells2 slots2 L μ pc i st) : LW p l e s m below meth c g b Q cells slots L μ pc i st := fun H locs ls hP hS hl => W.widen h1 h2 (k H locs ls hP hS hl)
theorem tv_tabOut {R : Room} {args : Array Value} {cc : ByteArray} {nL : Nat} {own : String} {lv : List (Nat × Value)} (X : ot_X p s m args c g cc nL own) {dflt lo hi : Int} {offs : Array Int} {len : Nat} {x : Int} (tgt : Nat) (hr : -2147483648 ≤ x ∧ x ≤ 2147483647) (hd : decode cc pc = .ok (.tableswitch dflt lo hi offs, len)) (h : x < lo ∨ hi < x) (ht : (pc : Int) + dflt = (tgt : Int))
    (k : ot_TV p l e R s m args below meth c g nL cells slots Q L μ tgt lv st) : ot_TV p l e R s m args below meth c g nL cells slots Q L μ pc lv (ot_i x :: st) := by
  intro H locs ls hP hS hl
  exact lv_tableOut X.1 X.2.1 hd (by rw [ot_bm hr.1 hr.2]; exact h) ht (k H locs ls hP hS hl)
theorem tv_tabIn {R : Room} {args : Array Value} {cc : ByteArray} {nL : Nat} {own : String} {lv : List (Nat × Value)} (X : ot_X p s m args c g cc nL own) {dflt lo hi : Int} {offs : Array Int} {len : Nat} {x off : Int} (tgt : Nat) (hr : -2147483648 ≤ x ∧ x ≤ 2147483647) (hd : decode cc pc = .ok (.tableswitch dflt lo hi offs, len)) (h1 : lo ≤ x) (h2 : x ≤ hi) (ho : offs[(x - lo).toNat]? = some off) (ht : (pc : Int) + off = (tgt : Int))
    (k : ot_TV p l e R s m args below meth c g nL cells slots Q L μ tgt lv st) : ot_TV p l e R s m args below meth c g nL cells slots Q L μ pc lv (ot_i x :: st) := by
  intro H locs ls hP hS hl
  exact lv_tableIn X.1 X.2.1 hd (by rw [ot_bm hr.1 hr.2]; omega) (by rw [ot_bm hr.1 hr.2]; omega) (by rw [ot_bm hr.1 hr.2]; exact ho) ht (k H locs ls hP hS hl)
end OTL

section OTM
variable {p : Program} {l : Launch} {e : Env} {R : Room} {s : State} {m : MethodId} {args : Array Value} {below : List Frame} {meth : Method} {c : Code} {g : ot_G} {nL cells slots mc ms : Nat} {Q : State → Prop} {cc : ByteArray} {own : String}
variable {L : ot_L} {μ : ot_M} {pc : Nat} {lv : List (Nat × Value)} {st : List Value}
theorem tv_max (X : ot_X p s m args c g cc nL own) {idx d : Nat} {x y : Int} (hR : R = ot_rm (d + 1) mc ms) (hm : ot_MS own idx Lib.Math.max.name Lib.Math.max.code 2 (some .int) 2) (hr : -2147483648 ≤ x ∧ x ≤ 2147483647 ∧ -2147483648 ≤ y ∧ y ≤ 2147483647) (h8 : ot_c1 st) (hc : cells ≤ mc) (hs : slots ≤ ms) (hd : decode cc pc = .ok (.invokestatic idx, 3))
    (k : ot_TV p l e R s m args below meth c g nL cells slots Q L μ (pc + 3) lv (ot_i (max x y) :: st)) : ot_TV p l e R s m args below meth c g nL cells slots Q L μ pc lv (ot_i y :: ot_i x :: st) := by
  intro H locs ls hP hS hl
  subst hR
  have ok : ∀ w, w ∈ ot_ws → w.before args s = true := X.2.2.2.2.1
  unfold ot_c1 at h8
  refine va_mmax X.1 X.2.1 (by rw [X.2.2.1]; exact hl.1.symm) X.2.2.2.1 (ok _ (hm.1 _ (by simp))) (ok _ (hm.1 _ (by simp))) (ok (Cond.initialized "java/lang/Math") (hm.1 _ (by show _ ∈ [_, _, Cond.initialized "java/lang/Math", _]; simp))) (ok _ (hm.1 _ (by simp))) (by simp only [ot_rm]; omega) (by simp only [ot_rm]; omega) hc hs hd ?_
  have h := k H locs ls hP hS hl
  have hr2 : -2147483648 ≤ y ∧ y ≤ 2147483647 ∧ -2147483648 ≤ x ∧ x ≤ 2147483647 := ⟨hr.2.2.1, hr.2.2.2, hr.1, hr.2.1⟩
  have e1 : ot_i (max x y) = .int (if Int32.ofInt x < Int32.ofInt y then Int32.ofInt y else Int32.ofInt x) := by
    show Value.int _ = _
    by_cases q : x < y
    · rw [if_pos ((ot_lt hr).mpr q), show max x y = y by omega]
    · rw [if_neg (fun z => q ((ot_lt hr).mp z)), show max x y = x by omega]
  rw [e1] at h
  exact h
theorem tv_min (X : ot_X p s m args c g cc nL own) {idx d : Nat} {x y : Int} (hR : R = ot_rm (d + 1) mc ms) (hm : ot_MS own idx Lib.Math.min.name Lib.Math.min.code 2 (some .int) 2) (hr : -2147483648 ≤ x ∧ x ≤ 2147483647 ∧ -2147483648 ≤ y ∧ y ≤ 2147483647) (h8 : ot_c1 st) (hc : cells ≤ mc) (hs : slots ≤ ms) (hd : decode cc pc = .ok (.invokestatic idx, 3))
    (k : ot_TV p l e R s m args below meth c g nL cells slots Q L μ (pc + 3) lv (ot_i (min x y) :: st)) : ot_TV p l e R s m args below meth c g nL cells slots Q L μ pc lv (ot_i y :: ot_i x :: st) := by
  intro H locs ls hP hS hl
  subst hR
  have ok : ∀ w, w ∈ ot_ws → w.before args s = true := X.2.2.2.2.1
  unfold ot_c1 at h8
  refine va_mmin X.1 X.2.1 (by rw [X.2.2.1]; exact hl.1.symm) X.2.2.2.1 (ok _ (hm.1 _ (by simp))) (ok _ (hm.1 _ (by simp))) (ok (Cond.initialized "java/lang/Math") (hm.1 _ (by show _ ∈ [_, _, Cond.initialized "java/lang/Math", _]; simp))) (ok _ (hm.1 _ (by simp))) (by simp only [ot_rm]; omega) (by simp only [ot_rm]; omega) hc hs hd ?_
  have h := k H locs ls hP hS hl
  have hr2 : -2147483648 ≤ y ∧ y ≤ 2147483647 ∧ -2147483648 ≤ x ∧ x ≤ 2147483647 := ⟨hr.2.2.1, hr.2.2.2, hr.1, hr.2.1⟩
  have e1 : ot_i (min x y) = .int (if Int32.ofInt y < Int32.ofInt x then Int32.ofInt y else Int32.ofInt x) := by
    show Value.int _ = _
    by_cases q : y < x
    · rw [if_pos ((ot_lt hr2).mpr q), show min x y = y by omega]
    · rw [if_neg (fun z => q ((ot_lt hr2).mp z)), show min x y = x by omega]
  rw [e1] at h
  exact h
end OTM
set_option maxRecDepth 100000 in
set_option maxHeartbeats 1000000 in
theorem s_indexOfChar (l : Launch) (g : ot_G) (L : ot_L) (μ : ot_M) (q v N : Nat) (b : List Int) (hO : stO g q v N b) (hZ : stZ g) (x : Int) (hx : 0 ≤ x ∧ x ≤ 255)  : ot_CV l g yJ1_indexOfChar_4cfef cJ1_indexOfChar_4cfef 6 (some .int) 0 0 0 [.ref v, ot_i x, ot_i 0, ot_i (N : Int)] L μ (ot_pi (fun r L2 μ2 => L2 = L ∧ μ2 = μ ∧ (-1 ≤ r ∧ r ≤ 1000) ∧ (0 ≤ r ↔ ∃ j, j < N ∧ b.getD j 0 = x))) := by
  refine ot_enterV (by intro w hw; simp only [List.mem_cons, List.not_mem_nil, or_false] at hw; rcases hw with rfl | rfl | rfl | rfl <;> rfl) (by decide +kernel) (Nat.le_of_ble_eq_true rfl) ?_
  intro p e s m args below meth c X hr
  have hN := hO.2.2.2.2.1
  refine tv_iload_n X rfl dJ1_indexOfChar_4cfef_0 ?_
  refine tv_i2b X (b2i hx) dJ1_indexOfChar_4cfef_1 ?_
  refine tv_istore X dJ1_indexOfChar_4cfef_2 (by decide) ?_
  refine tv_iload_n X rfl dJ1_indexOfChar_4cfef_4 ?_
  refine tv_istore X dJ1_indexOfChar_4cfef_5 (by decide) ?_
  refine tv_loc [(0, .ref v), (3, ot_i (N : Int)), (4, ot_i (if x ≤ 127 then x else x - 256)), (5, ot_i _)] ⟨rfl, rfl, rfl, rfl, trivial⟩ ?_
  refine tv_loop (α := Nat) (fun i => N - i) (fun i => i ≤ N ∧ ∀ j, j < i → b.getD j 0 ≠ x) (fun i => [(0, .ref v), (3, ot_i (N : Int)), (4, ot_i (if x ≤ 127 then x else x - 256)), (5, ot_i (i : Int))]) 0 ⟨Nat.zero_le _, fun j hj => absurd hj (Nat.not_lt_zero j)⟩ ?_
  intro i hI ih
  have hi := hI.1
  refine tv_iload X rfl dJ1_indexOfChar_4cfef_7 ?_
  refine tv_iload_n X rfl dJ1_indexOfChar_4cfef_9 ?_
  refine tv_icmp_ge X 31 (by first | omega | (simp (disch := decide) only [ot_rd, ot_rs, ot_rf, ot_ucd, ot_ucs]; omega)) dJ1_indexOfChar_4cfef_10 (by decide) (fun b10 => ?_) (fun b10 => ?_)
  · refine tv_iconst X dJ1_indexOfChar_4cfef_31 ?_
    refine tv_iret X ⟨hr.1, hr.2.1⟩ (Or.inl rfl) (by decide) (by decide) dJ1_indexOfChar_4cfef_32 ?_
    refine ⟨rfl, rfl, by omega, fun h => by omega, fun h => ?_⟩
    obtain ⟨j, h1, h2⟩ := h
    exact absurd h2 (hI.2 j (by omega))
  · refine tv_aload_n X rfl dJ1_indexOfChar_4cfef_13 ?_
    refine tv_iload X rfl dJ1_indexOfChar_4cfef_14 ?_
    have hbi := hO.2.2.2.2.2 i
    refine tv_tb X hO.2.2.2.1 (by omega) rfl dJ1_indexOfChar_4cfef_16 ?_
    refine tv_top (y := b.getD i 0) (by rw [Int.toNat_natCast]) ?_
    refine tv_iload X rfl dJ1_indexOfChar_4cfef_17 ?_
    refine tv_icmp_ne X 25 (by split <;> omega) dJ1_indexOfChar_4cfef_19 (by decide) (fun b19 => ?_) (fun b19 => ?_)
    · refine tv_iinc X dJ1_indexOfChar_4cfef_25 rfl (by decide) ?_
      refine tv_goto X 7 dJ1_indexOfChar_4cfef_28 (by decide) ?_
      refine tv_loc [(0, .ref v), (3, ot_i (N : Int)), (4, ot_i (if x ≤ 127 then x else x - 256)), (5, ot_i _)] ⟨rfl, rfl, rfl, rfl, trivial⟩ ?_
      refine ih (i + 1) ⟨by omega, fun j hj => ?_⟩ (by omega)
      by_cases w : j = i
      · subst w
        intro q
        rw [q] at b19
        split at b19 <;> omega
      · exact hI.2 j (by omega)
    · refine tv_iload X rfl dJ1_indexOfChar_4cfef_22 ?_
      refine tv_iret X ⟨hr.1, hr.2.1⟩ (Or.inl rfl) (by decide) (by decide) dJ1_indexOfChar_4cfef_24 ?_
      refine ⟨rfl, rfl, by omega, fun _ => ⟨i, by omega, ?_⟩, fun _ => by omega⟩
      split at b19 <;> omega
set_option maxRecDepth 100000 in
set_option maxHeartbeats 1000000 in
theorem s_lindexOf (l : Launch) (g : ot_G) (L : ot_L) (μ : ot_M) (q v N : Nat) (b : List Int) (hO : stO g q v N b) (hZ : stZ g) (x : Int) (hx : 0 ≤ x ∧ x ≤ 255) (hN1 : 1 ≤ N)  : ot_CV l g yJ1_indexOf_4cfef cJ1_indexOf_4cfef 4 (some .int) 1 0 0 [.ref v, ot_i x, ot_i 0, ot_i (N : Int)] L μ (ot_pi (fun r L2 μ2 => L2 = L ∧ μ2 = μ ∧ (-1 ≤ r ∧ r ≤ 1000) ∧ (0 ≤ r ↔ ∃ j, j < N ∧ b.getD j 0 = x))) := by
  refine ot_enterV (by intro w hw; simp only [List.mem_cons, List.not_mem_nil, or_false] at hw; rcases hw with rfl | rfl | rfl | rfl <;> rfl) (by decide +kernel) (Nat.le_of_ble_eq_true rfl) ?_
  intro p e s m args below meth c X hr
  have hN := hO.2.2.2.2.1
  refine tv_iload_n X rfl dJ1_indexOf_4cfef_0 ?_
  refine tv_callS X rfl mJ1_88 (s_canEncode l g L μ x hx) rfl rfl (by unfold ot_c1; simp [Value.category, ot_i]) (by decide) (by decide) (by decide) dJ1_indexOf_4cfef_1 (fun r L2 μ2 hp => ?_)
  obtain ⟨z, rfl, e1, e2, hz⟩ := hp
  replace e1 := e1.symm
  replace e2 := e2.symm
  subst e1
  subst e2
  refine tv_top hz ?_
  refine tv_if_ne X 9 (by first | omega | (simp (disch := decide) only [ot_rd, ot_rs, ot_rf, ot_ucd, ot_ucs]; omega)) dJ1_indexOf_4cfef_4 (by decide) (fun b4 => ?_) (fun b4 => ?_)
  · refine tv_iload_n X rfl dJ1_indexOf_4cfef_9 ?_
    refine tv_iconst X dJ1_indexOf_4cfef_10 ?_
    refine tv_max X rfl mJ1_92 (by omega) (by unfold ot_c1; simp [Value.category, ot_i]) (by decide) (by decide) dJ1_indexOf_4cfef_11 ?_
    refine tv_top (y := 0) (by omega) ?_
    refine tv_istore_n X dJ1_indexOf_4cfef_14 (by decide) ?_
    refine tv_iload_n X rfl dJ1_indexOf_4cfef_15 ?_
    refine tv_aload_n X rfl dJ1_indexOf_4cfef_16 ?_
    refine tv_tlen X hO.2.2.2.1 dJ1_indexOf_4cfef_17 ?_
    refine tv_min X rfl mJ1_38 (by omega) (by unfold ot_c1; simp [Value.category, ot_i]) (by decide) (by decide) dJ1_indexOf_4cfef_18 ?_
    refine tv_top (y := (N : Int)) (by omega) ?_
    refine tv_istore_n X dJ1_indexOf_4cfef_21 (by decide) ?_
    refine tv_iload_n X rfl dJ1_indexOf_4cfef_22 ?_
    refine tv_iload_n X rfl dJ1_indexOf_4cfef_23 ?_
    refine tv_icmp_lt X 29 (by first | omega | (simp (disch := decide) only [ot_rd, ot_rs, ot_rf, ot_ucd, ot_ucs]; omega)) dJ1_indexOf_4cfef_24 (by decide) (fun b24 => ?_) (fun b24 => ?_)
    · refine tv_aload_n X rfl dJ1_indexOf_4cfef_29 ?_
      refine tv_iload_n X rfl dJ1_indexOf_4cfef_30 ?_
      refine tv_iload_n X rfl dJ1_indexOf_4cfef_31 ?_
      refine tv_iload_n X rfl dJ1_indexOf_4cfef_32 ?_
      refine tv_callS X rfl mJ1_95 (s_indexOfChar l g L μ q v N b hO hZ x hx) rfl rfl (by unfold ot_c1; simp [Value.category, ot_i]) (by decide) (by decide) (by decide) dJ1_indexOf_4cfef_33 (fun r L2 μ2 hp => ?_)
      obtain ⟨z, rfl, e1, e2, hz⟩ := hp
      replace e1 := e1.symm
      replace e2 := e2.symm
      subst e1
      subst e2
      refine tv_iret X ⟨hr.1, hr.2.1⟩ (Or.inl rfl) (by decide) (by decide) dJ1_indexOf_4cfef_36 ?_
      exact ⟨rfl, rfl, hz⟩
    · exact absurd b24 (by omega)
  · exact absurd b4 (by omega)
set_option maxRecDepth 100000 in
set_option maxHeartbeats 1000000 in
theorem s_indexOf2 (l : Launch) (g : ot_G) (L : ot_L) (μ : ot_M) (q v N : Nat) (b : List Int) (hO : stO g q v N b) (hZ : stZ g) (x : Int) (hx : 0 ≤ x ∧ x ≤ 255) (hN1 : 1 ≤ N)  : ot_CV l g yJ0_indexOf_7cf53 cJ0_indexOf_7cf53 3 (some .int) 2 0 0 [.ref q, ot_i x, ot_i 0] L μ (ot_pi (fun r L2 μ2 => L2 = L ∧ μ2 = μ ∧ (-1 ≤ r ∧ r ≤ 1000) ∧ (0 ≤ r ↔ ∃ j, j < N ∧ b.getD j 0 = x))) := by
  refine ot_enterV (by intro w hw; simp only [List.mem_cons, List.not_mem_nil, or_false] at hw; rcases hw with rfl | rfl | rfl <;> rfl) (by decide +kernel) (Nat.le_of_ble_eq_true rfl) ?_
  intro p e s m args below meth c X hr
  refine tv_aload_n X rfl dJ0_indexOf_7cf53_0 ?_
  refine tv_callV X rfl mJ0_492 (s_isLatin1 l g L μ q v N b hO hZ) hO.1 rfl rfl (by unfold ot_c1; simp [Value.category, ot_i]) (by decide) (by decide) (by decide) dJ0_indexOf_7cf53_1 (fun r L2 μ2 hp => ?_)
  obtain ⟨z, rfl, e1, e2, hz⟩ := hp
  replace e1 := e1.symm
  replace e2 := e2.symm
  subst e1
  subst e2
  refine tv_top hz ?_
  refine tv_if_eq X 23 (by first | omega | (simp (disch := decide) only [ot_rd, ot_rs, ot_rf, ot_ucd, ot_ucs]; omega)) dJ0_indexOf_7cf53_4 (by decide) (fun b4 => ?_) (fun b4 => ?_)
  · exact absurd b4 (by omega)
  · refine tv_aload_n X rfl dJ0_indexOf_7cf53_7 ?_
    refine tv_strf X hO.2.2.1 (ot_mem 1500 (by decide +kernel) (by decide +kernel)) dJ0_indexOf_7cf53_8 ?_
    refine tv_iload_n X rfl dJ0_indexOf_7cf53_11 ?_
    refine tv_iload_n X rfl dJ0_indexOf_7cf53_12 ?_
    refine tv_aload_n X rfl dJ0_indexOf_7cf53_13 ?_
    refine tv_callV X rfl mJ0_505 (s_length l g L μ q v N b hO hZ) hO.1 rfl rfl (by unfold ot_c1; simp [Value.category, ot_i]) (by decide) (by decide) (by decide) dJ0_indexOf_7cf53_14 (fun r L2 μ2 hp => ?_)
    obtain ⟨z, rfl, e1, e2, hz⟩ := hp
    replace e1 := e1.symm
    replace e2 := e2.symm
    subst e1
    subst e2
    refine tv_top hz ?_
    refine tv_callS X rfl mJ0_637 (s_lindexOf l g L μ q v N b hO hZ x hx hN1) rfl rfl (by unfold ot_c1; simp [Value.category, ot_i]) (by decide) (by decide) (by decide) dJ0_indexOf_7cf53_17 (fun r L2 μ2 hp => ?_)
    obtain ⟨z, rfl, e1, e2, hz⟩ := hp
    replace e1 := e1.symm
    replace e2 := e2.symm
    subst e1
    subst e2
    refine tv_goto X 36 dJ0_indexOf_7cf53_20 (by decide) ?_
    refine tv_iret X ⟨hr.1, hr.2.1⟩ (Or.inl rfl) (by decide) (by decide) dJ0_indexOf_7cf53_36 ?_
    exact ⟨rfl, rfl, hz⟩
set_option maxRecDepth 100000 in
set_option maxHeartbeats 1000000 in
theorem s_indexOf (l : Launch) (g : ot_G) (L : ot_L) (μ : ot_M) (q v N : Nat) (b : List Int) (hO : stO g q v N b) (hZ : stZ g) (x : Int) (hx : 0 ≤ x ∧ x ≤ 255) (hN1 : 1 ≤ N)  : ot_CV l g yJ0_indexOf_0f7a4 cJ0_indexOf_0f7a4 2 (some .int) 3 0 0 [.ref q, ot_i x] L μ (ot_pi (fun r L2 μ2 => L2 = L ∧ μ2 = μ ∧ (-1 ≤ r ∧ r ≤ 1000) ∧ (0 ≤ r ↔ ∃ j, j < N ∧ b.getD j 0 = x))) := by
  refine ot_enterV (by intro w hw; simp only [List.mem_cons, List.not_mem_nil, or_false] at hw; rcases hw with rfl | rfl <;> rfl) (by decide +kernel) (Nat.le_of_ble_eq_true rfl) ?_
  intro p e s m args below meth c X hr
  refine tv_aload_n X rfl dJ0_indexOf_0f7a4_0 ?_
  refine tv_iload_n X rfl dJ0_indexOf_0f7a4_1 ?_
  refine tv_iconst X dJ0_indexOf_0f7a4_2 ?_
  refine tv_callV X rfl mJ0_633 (s_indexOf2 l g L μ q v N b hO hZ x hx hN1) hO.1 rfl rfl (by unfold ot_c1; simp [Value.category, ot_i]) (by decide) (by decide) (by decide) dJ0_indexOf_0f7a4_3 (fun r L2 μ2 hp => ?_)
  obtain ⟨z, rfl, e1, e2, hz⟩ := hp
  replace e1 := e1.symm
  replace e2 := e2.symm
  subst e1
  subst e2
  refine tv_iret X ⟨hr.1, hr.2.1⟩ (Or.inl rfl) (by decide) (by decide) dJ0_indexOf_0f7a4_6 ?_
  exact ⟨rfl, rfl, hz⟩

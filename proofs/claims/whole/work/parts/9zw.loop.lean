theorem lr_done {p : Program} {l : Launch} {e : Env} {s : State} {m : MethodId} {below : List Frame} {meth : Method} {c : Code} {g : ot_G} {b N : Nat} {xs : Nat → Int32} {cells slots : Nat} {L : ot_L} {μ : ot_M} {i : Int} (h : lwX p s m meth c g b N xs) (hr : meth.sig.returnType = ret) (hlk : meth.locks = false) (hc : cells ≤ 600000) (hs : slots ≤ 7302250) : LW p l e s m below meth c g b (lw_Z below #[Value.ref b] s) cells slots L μ 1160 i [] := by
  refine tv_iconst h.1 dL_law_1160 ?_
  intro H locs ls hP hS hl
  obtain ⟨X, hX, hb, hg, hN⟩ := h
  refine va_forget (fun q hq => ?_) (W.widen hc hs (lw_ret X.1 X.2.1 hr hlk dL_law_1161))
  have h1 := hS.2.2 q hq
  unfold ot_A at h1
  rw [hg] at h1
  exact h1
theorem lr_len {p : Program} {l : Launch} {e : Env} {s : State} {m : MethodId} {below : List Frame} {meth : Method} {c : Code} {g : ot_G} {b N : Nat} {xs : Nat → Int32} {Q : State → Prop} {cells slots pc : Nat} {L : ot_L} {μ : ot_M} {i : Int} {st : List Value} (h : lwX p s m meth c g b N xs) (hd : decode cL_law pc = .ok (.arraylength, 1)) (k : LW p l e s m below meth c g b Q cells slots L μ (pc + 1) i (ot_i (N : Int) :: st)) : LW p l e s m below meth c g b Q cells slots L μ pc i (.ref b :: st) := by
  intro H locs ls hP hS hl
  obtain ⟨X, hX, hb, hg, hN⟩ := h
  refine va_slen (A := ot_A g) X.1 X.2.1 hX hb (by unfold ot_A; rw [hg]; omega) hS hd ?_
  have hk := k H locs ls hP hS hl
  have e1 : ot_i (N : Int) = .int (Int32.ofNat N) := by
    show Value.int (Int32.ofInt (N : Int)) = _
    rw [Int32.ofInt_eq_ofNat]
  rw [e1] at hk
  exact hk
theorem lr_next {p : Program} {l : Launch} {e : Env} {s : State} {m : MethodId} {below : List Frame} {meth : Method} {c : Code} {g : ot_G} {b N : Nat} {xs : Nat → Int32} {Q : State → Prop} {cells slots : Nat} {L : ot_L} {μ : ot_M} {i : Int} (h : lwX p s m meth c g b N xs) (k : LW p l e s m below meth c g b Q cells slots L μ 18 (i + 6) []) : LW p l e s m below meth c g b Q cells slots L μ 1154 i [] := by
  refine tv_iinc h.1 dL_law_1154 rfl (by decide) ?_
  refine tv_goto h.1 18 dL_law_1157 (by decide) ?_
  refine tv_loc [(0, .ref b), (1, .ref (g.1.size + 0)), (2, .ref (g.1.size + 60)), (3, ot_i (i + 6))] ⟨rfl, rfl, rfl, rfl, trivial⟩ ?_
  exact k
theorem and_r (x y : Int) : -2147483648 ≤ ot_and x y ∧ ot_and x y ≤ 2147483647 := by
  have h1 := Int32.minValue_le_toInt (Int32.ofInt x &&& Int32.ofInt y)
  have h2 := Int32.toInt_le (Int32.ofInt x &&& Int32.ofInt y)
  exact ⟨h1, h2⟩
theorem law_head {p : Program} {l : Launch} {e : Env} {s : State} {m : MethodId} {below : List Frame} {meth : Method} {c : Code} {g : ot_G} {b N : Nat} {xs : Nat → Int32} {Q : State → Prop} {cells slots : Nat} {L : ot_L} {μ : ot_M} {i : Int} (h : lwX p s m meth c g b N xs) (hi : 0 ≤ i ∧ i ≤ 100000) (K1 : LW p l e s m below meth c g b Q cells slots L μ 1160 i []) (K2 : i + 6 ≤ (N : Int) → LW p l e s m below meth c g b Q cells slots L μ 33 i [ot_i (ot_and (sv xs i) 31)]) : LW p l e s m below meth c g b Q cells slots L μ 18 i [] := by
  have hN := h.2.2.2.2
  refine tv_iload_n h.1 (k0 := 3) rfl dL_law_18 ?_
  refine tv_aload_n h.1 (k0 := 0) rfl dL_law_19 ?_
  refine lr_len h dL_law_20 ?_
  refine tv_bipush h.1 (by decide) dL_law_21 ?_
  refine tv_isub h.1 dL_law_23 ?_
  refine tv_icmp_gt h.1 1160 (by omega) dL_law_24 (by decide) (fun b0 => K1) (fun b0 => ?_)
  refine tv_aload_n h.1 (k0 := 0) rfl dL_law_27 ?_
  refine tv_iload_n h.1 (k0 := 3) rfl dL_law_28 ?_
  refine lr_ld h (by omega) dL_law_29 ?_
  refine tv_bipush h.1 (by decide) dL_law_30 ?_
  refine tv_iand h.1 dL_law_32 ?_
  exact K2 (by omega)
set_option maxRecDepth 100000 in
set_option maxHeartbeats 2000000 in
/-- one call of the script -/
theorem law_step {p : Program} {l : Launch} {e : Env} {s : State} {m : MethodId} {below : List Frame} {meth : Method} {c : Code} {g : ot_G} {b N : Nat} {xs : Nat → Int32} {Q : State → Prop} {cells slots ln nl : Nat} {ext : ot_L} {μ : ot_M} {i : Int} (h : lwX p s m meth c g b N xs) (hgz : ot_gz g) (hr : rel μ) (hln : gLn ln nl ext) (hc6 : cells ≤ 599000) (hs6 : slots ≤ 7000000) (hi : 0 ≤ i ∧ i + 6 ≤ (N : Int)) (K : ∀ μ2 : ot_M, rel μ2 → LW p l e s m below meth c g b Q cells slots (LL ln ext) μ2 1154 i []) (Kt : ∀ (ln2 : Nat) (ext2 : ot_L) (nl2 : Nat) (μ2 : ot_M), gLn ln2 nl2 ext2 → rel μ2 → LW p l e s m below meth c g b Q (cells + 1) (slots + 4096) (LL ln2 ext2) μ2 1154 i []) : LW p l e s m below meth c g b Q cells slots (LL ln ext) μ 33 i [ot_i (ot_and (sv xs i) 31)] := by
  obtain ⟨x, hx⟩ : ∃ x, x = ot_and (sv xs i) 31 := ⟨_, rfl⟩
  have hxr := and_r (sv xs i) 31
  rw [← hx] at hxr ⊢
  rcases (show x < 0 ∨ 29 < x ∨ x = 0 ∨ x = 1 ∨ x = 2 ∨ x = 3 ∨ x = 4 ∨ x = 5 ∨ x = 6 ∨ x = 7 ∨ x = 8 ∨ x = 9 ∨ x = 10 ∨ x = 11 ∨ x = 12 ∨ x = 13 ∨ x = 14 ∨ x = 15 ∨ x = 16 ∨ x = 17 ∨ x = 18 ∨ x = 19 ∨ x = 20 ∨ x = 21 ∨ x = 22 ∨ x = 23 ∨ x = 24 ∨ x = 25 ∨ x = 26 ∨ x = 27 ∨ x = 28 ∨ x = 29 by omega) with sw | sw | sw | sw | sw | sw | sw | sw | sw | sw | sw | sw | sw | sw | sw | sw | sw | sw | sw | sw | sw | sw | sw | sw | sw | sw | sw | sw | sw | sw | sw | sw
  · exact tv_tabOut h.1 1154 hxr dL_law_33 (Or.inl sw) (by decide) (K μ hr)
  · exact tv_tabOut h.1 1154 hxr dL_law_33 (Or.inr sw) (by decide) (K μ hr)
  · exact tv_tabIn h.1 (off := 135) 168 hxr dL_law_33 (by omega) (by omega) (by rw [sw]; rfl) (by decide) (la_board h hgz hr hc6 hs6 hi K)
  · exact tv_tabIn h.1 (off := 158) 191 hxr dL_law_33 (by omega) (by omega) (by rw [sw]; rfl) (by decide) (la_pin h hgz hr hc6 hs6 hi K)
  · exact tv_tabIn h.1 (off := 191) 224 hxr dL_law_33 (by omega) (by omega) (by rw [sw]; rfl) (by decide) (la_want h hgz hr hc6 hs6 hi K)
  · exact tv_tabIn h.1 (off := 244) 277 hxr dL_law_33 (by omega) (by omega) (by rw [sw]; rfl) (by decide) (la_weight h hgz hr hc6 hs6 hi K)
  · exact tv_tabIn h.1 (off := 287) 320 hxr dL_law_33 (by omega) (by omega) (by rw [sw]; rfl) (by decide) (la_shade h hgz hr hc6 hs6 hi K)
  · exact tv_tabIn h.1 (off := 320) 353 hxr dL_law_33 (by omega) (by omega) (by rw [sw]; rfl) (by decide) (la_winding h hgz hr hc6 hs6 hi K)
  · exact tv_tabIn h.1 (off := 353) 386 hxr dL_law_33 (by omega) (by omega) (by rw [sw]; rfl) (by decide) (la_rub h hgz hr hc6 hs6 hi K)
  · exact tv_tabIn h.1 (off := 386) 419 hxr dL_law_33 (by omega) (by omega) (by rw [sw]; rfl) (by decide) (la_feed h hgz hr hc6 hs6 hi K)
  · exact tv_tabIn h.1 (off := 449) 482 hxr dL_law_33 (by omega) (by omega) (by rw [sw]; rfl) (by decide) (la_end h hgz hr hc6 hs6 hi K)
  · exact tv_tabIn h.1 (off := 472) 505 hxr dL_law_33 (by omega) (by omega) (by rw [sw]; rfl) (by decide) (la_text h hgz hr hc6 hs6 hi K)
  · exact tv_tabIn h.1 (off := 485) 518 hxr dL_law_33 (by omega) (by omega) (by rw [sw]; rfl) (by decide) (la_fault h hgz hr hc6 hs6 hi K)
  · exact tv_tabIn h.1 (off := 508) 541 hxr dL_law_33 (by omega) (by omega) (by rw [sw]; rfl) (by decide) (la_wound h hgz hr hc6 hs6 hi K)
  · exact tv_tabIn h.1 (off := 541) 574 hxr dL_law_33 (by omega) (by omega) (by rw [sw]; rfl) (by decide) (la_dark h hgz hr hc6 hs6 hi K)
  · exact tv_tabIn h.1 (off := 574) 607 hxr dL_law_33 (by omega) (by omega) (by rw [sw]; rfl) (by decide) (la_samples h hgz hr hc6 hs6 hi K)
  · exact tv_tabIn h.1 (off := 627) 660 hxr dL_law_33 (by omega) (by omega) (by rw [sw]; rfl) (by decide) (la_far h hgz hr hc6 hs6 hi K)
  · exact tv_tabIn h.1 (off := 650) 683 hxr dL_law_33 (by omega) (by omega) (by rw [sw]; rfl) (by decide) (la_next h hgz hr hc6 hs6 hi K)
  · exact tv_tabIn h.1 (off := 693) 726 hxr dL_law_33 (by omega) (by omega) (by rw [sw]; rfl) (by decide) (la_greedy h hgz hr hc6 hs6 hi K)
  · exact tv_tabIn h.1 (off := 746) 779 hxr dL_law_33 (by omega) (by omega) (by rw [sw]; rfl) (by decide) (la_worst h hgz hr hc6 hs6 hi K)
  · exact tv_tabIn h.1 (off := 779) 812 hxr dL_law_33 (by omega) (by omega) (by rw [sw]; rfl) (by decide) (la_line h hgz hr hc6 hs6 hi K)
  · exact tv_tabIn h.1 (off := 812) 845 hxr dL_law_33 (by omega) (by omega) (by rw [sw]; rfl) (by decide) (la_clear h hgz hr hc6 hs6 hi K)
  · exact tv_tabIn h.1 (off := 825) 858 hxr dL_law_33 (by omega) (by omega) (by rw [sw]; rfl) (by decide) (la_thread h hgz hr hc6 hs6 hi hln Kt)
  · exact tv_tabIn h.1 (off := 848) 881 hxr dL_law_33 (by omega) (by omega) (by rw [sw]; rfl) (by decide) (la_order h hgz hr hc6 hs6 hi K)
  · exact tv_tabIn h.1 (off := 871) 904 hxr dL_law_33 (by omega) (by omega) (by rw [sw]; rfl) (by decide) (la_tell h hgz hr hc6 hs6 hi K)
  · exact tv_tabIn h.1 (off := 914) 947 hxr dL_law_33 (by omega) (by omega) (by rw [sw]; rfl) (by decide) (la_back h hgz hr hc6 hs6 hi K)
  · exact tv_tabIn h.1 (off := 937) 970 hxr dL_law_33 (by omega) (by omega) (by rw [sw]; rfl) (by decide) (la_like h hgz hr hc6 hs6 hi K)
  · exact tv_tabIn h.1 (off := 950) 983 hxr dL_law_33 (by omega) (by omega) (by rw [sw]; rfl) (by decide) (la_rule h hgz hr hc6 hs6 hi K)
  · exact tv_tabIn h.1 (off := 993) 1026 hxr dL_law_33 (by omega) (by omega) (by rw [sw]; rfl) (by decide) (la_drawn h hgz hr hc6 hs6 hi K)
  · exact tv_tabIn h.1 (off := 1046) 1079 hxr dL_law_33 (by omega) (by omega) (by rw [sw]; rfl) (by decide) (la_undo h hgz hr hc6 hs6 hi K)
  · exact tv_tabIn h.1 (off := 1059) 1092 hxr dL_law_33 (by omega) (by omega) (by rw [sw]; rfl) (by decide) (la_image h hgz hr hc6 hs6 hi K)
  · exact tv_tabIn h.1 (off := 1098) 1131 hxr dL_law_33 (by omega) (by omega) (by rw [sw]; rfl) (by decide) (la_look h hgz hr hc6 hs6 hi K)
theorem law_loop {p : Program} {l : Launch} {e : Env} {s : State} {m : MethodId} {below : List Frame} {meth : Method} {c : Code} {g : ot_G} {b N : Nat} {xs : Nat → Int32} (h : lwX p s m meth c g b N xs) (hgz : ot_gz g) (hr0 : meth.sig.returnType = ret) (hlk : meth.locks = false) : ∀ (d k ln nl : Nat) (ext : ot_L) (μ : ot_M), N + 6 ≤ 6 * (k + d) → k ≤ 512 → gLn ln nl ext → rel μ → LW p l e s m below meth c g b (lw_Z below #[Value.ref b] s) (88 + k) (40000 + 4096 * k) (LL ln ext) μ 18 (6 * (k : Int)) [] := by
  have hN := h.2.2.2.2
  intro d
  induction d with
  | zero =>
    intro k ln nl ext μ hd hk hln hr
    exact law_head h (by omega) (lr_done h hr0 hlk (by omega) (by omega)) (fun hlt => absurd hlt (by omega))
  | succ d ih =>
    intro k ln nl ext μ hd hk hln hr
    refine law_head h (by omega) (lr_done h hr0 hlk (by omega) (by omega)) (fun hlt => ?_)
    have K0 : ∀ (cells2 slots2 ln2 : Nat) (ext2 : ot_L) (nl2 : Nat) (μ2 : ot_M), cells2 ≤ 88 + (k + 1) → slots2 ≤ 40000 + 4096 * (k + 1) → gLn ln2 nl2 ext2 → rel μ2 → LW p l e s m below meth c g b (lw_Z below #[Value.ref b] s) cells2 slots2 (LL ln2 ext2) μ2 1154 (6 * (k : Int)) [] := fun cells2 slots2 ln2 ext2 nl2 μ2 hc2 hs2 hl2 hr2 => by
      refine lr_next h ?_
      refine lr_widen hc2 hs2 ?_
      have h2 := ih (k + 1) ln2 nl2 ext2 μ2 (by omega) (by omega) hl2 hr2
      rw [show 6 * (k : Int) + 6 = 6 * ((k + 1 : Nat) : Int) by omega]
      exact h2
    refine law_step h hgz hr hln (by omega) (by omega) ⟨by omega, hlt⟩ (fun μ2 hr2 => K0 _ _ ln ext nl μ2 (by omega) (by omega) hln hr2) (fun ln2 ext2 nl2 μ2 hl2 hr2 => K0 _ _ ln2 ext2 nl2 μ2 (by omega) (by omega) hl2 hr2)

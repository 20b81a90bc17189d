theorem c_fillLeast (l : Launch) (g : ot_G) (ln : Nat) (ext : ot_L) (μ : ot_M) (n nl : Nat) (hn : μ 41 5 = (n : Int)) (hO : gOd n (μ 2) (μ 3) (μ 43)) (hln : gLn ln nl ext) : ot_C l g yX5_fillLeast cX5_fillLeast 3 none 3 1 4096 [.inr 41] (LL ln ext) μ (ot_pv (fun L2 μ2 => ∃ (ln2 : Nat) (ext2 : ot_L) (nl2 : Nat) (F : Int → Int), gLn ln2 nl2 ext2 ∧ 2 ^ n ≤ nl2 ∧ L2 = LL ln2 ext2 ∧ (∀ u, u < 2 ^ n → cnt u n % 2 = 0 → F (u : Int) = (tT (lnD n (μ 2) (μ 3) (μ 43)) n) u) ∧ μ2 = ot_uc μ ln2 F)) := by
  by_cases w : 2 ^ n ≤ nl
  · exact c_fillLeastO l g ln ext μ n nl hn hO hln w
  · exact c_fillLeastN l g ln ext μ n nl hn hO hln (by omega)
/-- what is seen of the pairs -/
def sS (D : Nat → Nat → Int) (n i j : Nat) (v : Int) : Prop := (v = -1 ∧ ∀ x y, x < y → y < n → ¬ (x < i ∨ x = i ∧ y < j)) ∨ ((0 ≤ v ∧ ∃ x y, x < y ∧ y < n ∧ (x < i ∨ x = i ∧ y < j) ∧ v = tT D n ((2 ^ n - 1) ^^^ 2 ^ x ^^^ 2 ^ y)) ∧ ∀ x y, x < y → y < n → (x < i ∨ x = i ∧ y < j) → v ≤ tT D n ((2 ^ n - 1) ^^^ 2 ^ x ^^^ 2 ^ y))
theorem sS_next {D : Nat → Nat → Int} {n i j : Nat} {v w : Int} (hij : i < j) (hj : j < n) (h : sS D n i j v) (hw : w = tT D n ((2 ^ n - 1) ^^^ 2 ^ i ^^^ 2 ^ j)) (hw0 : 0 ≤ w) : (v = -1 ∨ w < v → sS D n i (j + 1) w) ∧ (¬ (v = -1 ∨ w < v) → sS D n i (j + 1) v) := by
  constructor
  · intro hc
    refine .inr ⟨⟨hw0, i, j, hij, hj, .inr ⟨rfl, by omega⟩, hw⟩, fun x y h1 h2 h3 => ?_⟩
    by_cases e : x = i ∧ y = j
    · rw [e.1, e.2, hw]; exact Int.le_refl _
    · have h4 : x < i ∨ x = i ∧ y < j := by omega
      rcases h with h | h
      · exact absurd h4 (h.2 x y h1 h2)
      · have := h.2 x y h1 h2 h4
        have hv : v ≠ -1 → w < v := fun q => hc.resolve_left q
        by_cases q : v = -1
        · have := h.1.1
          omega
        · have := hv q
          omega
  · intro hc
    rcases h with h | h
    · exact absurd (Or.inl h.1) hc
    · obtain ⟨⟨a0, x, y, a1, a2, a3, a4⟩, h5⟩ := h
      refine .inr ⟨⟨a0, x, y, a1, a2, by omega, a4⟩, fun x y h1 h2 h3 => ?_⟩
      by_cases e : x = i ∧ y = j
      · rw [e.1, e.2, ← hw]; omega
      · exact h5 x y h1 h2 (by omega)
theorem sS_row {D : Nat → Nat → Int} {n i j : Nat} {v : Int} (hj : n ≤ j) (h : sS D n i j v) : sS D n (i + 1) 0 v := by
  rcases h with h | h
  · refine .inl ⟨h.1, fun x y h1 h2 h3 => h.2 x y h1 h2 (by omega)⟩
  · obtain ⟨⟨a0, x, y, a1, a2, a3, a4⟩, h5⟩ := h
    exact .inr ⟨⟨a0, x, y, a1, a2, by omega, a4⟩, fun x y h1 h2 h3 => h5 x y h1 h2 (by omega)⟩
theorem sS_in {D : Nat → Nat → Int} {n i : Nat} {v : Int} (h : sS D n i 0 v) : sS D n i (i + 1) v := by
  rcases h with h | h
  · refine .inl ⟨h.1, fun x y h1 h2 h3 => h.2 x y h1 h2 (by omega)⟩
  · obtain ⟨⟨a0, x, y, a1, a2, a3, a4⟩, h5⟩ := h
    exact .inr ⟨⟨a0, x, y, a1, a2, by omega, a4⟩, fun x y h1 h2 h3 => h5 x y h1 h2 (by omega)⟩
theorem sS_done {D : Nat → Nat → Int} {n i : Nat} {v : Int} (hi : n ≤ i) (hn : 2 ≤ n) (h : sS D n i 0 v) : isS D n v := by
  rcases h with h | h
  · exact absurd (Or.inl (by omega)) (h.2 0 1 (by omega) (by omega))
  · obtain ⟨⟨a0, x, y, a1, a2, a3, a4⟩, h5⟩ := h
    exact ⟨⟨x, y, a1, a2, a4⟩, fun x y h1 h2 => h5 x y h1 h2 (.inl (by omega))⟩
/-- how much the shortest lines more are -/
def shS (D : Nat → Nat → Int) (n : Nat) (p r : Int) : Prop := if p ≠ 1 ∨ 12 < n then r = -1 else if n = 0 then r = 0 else isS D n r
theorem shS_one {D : Nat → Nat → Int} {n : Nat} {p r r2 : Int} (h1 : shS D n p r) (h2 : shS D n p r2) : r = r2 := by
  unfold shS at h1 h2
  by_cases w : p ≠ 1 ∨ 12 < n
  · rw [if_pos w] at h1 h2; rw [h1, h2]
  · rw [if_neg w] at h1 h2
    by_cases q : n = 0
    · rw [if_pos q] at h1 h2; rw [h1, h2]
    · rw [if_neg q] at h1 h2; exact isS_one h1 h2
set_option maxRecDepth 100000 in
set_option maxHeartbeats 1000000 in
theorem c_shortestMore (l : Launch) (g : ot_G) (ln : Nat) (ext : ot_L) (μ : ot_M) (n nl : Nat) (hn : μ 41 5 = (n : Int)) (hO : μ 41 6 = 1 → n ≤ 12 → gOd n (μ 2) (μ 3) (μ 43)) (hln : gLn ln nl ext) (hn24 : n ≤ 24) (hev : μ 41 6 = 1 → n % 2 = 0) (hp6 : 0 ≤ μ 41 6 ∧ μ 41 6 ≤ 24)  : ot_C l g yX5_shortestMore cX5_shortestMore 6 (some .int) 4 1 4096 [.inr 41] (LL ln ext) μ (ot_pi (fun r L2 μ2 => ∃ (ln2 : Nat) (ext2 : ot_L) (nl2 : Nat) (F : Int → Int), gLn ln2 nl2 ext2 ∧ L2 = LL ln2 ext2 ∧ μ2 = ot_uc μ ln2 F ∧ shS (lnD n (μ 2) (μ 3) (μ 43)) n (μ 41 6) r)) := by
  refine ot_enter (by decide) (Nat.le_of_ble_eq_true rfl) ?_
  intro p e s m args below meth c X hr
  have hrd0 : ot_uc μ ln (μ ln) = μ := ot_uc_self
  refine tt_aload_n X rfl dX5_shortestMore_0 ?_
  refine tt_geti X fX5_53 (k_41 _ _) (by decide) (Or.inl rfl) dX5_shortestMore_1 ?_
  refine tt_iconst X dX5_shortestMore_4 ?_
  refine tt_icmp_ne X 17 (by omega) dX5_shortestMore_5 (by decide) (fun b5 => ?_) (fun b5 => ?_)
  · refine tt_iconst X dX5_shortestMore_17 ?_
    refine tt_iret X ⟨hr.1, hr.2.1⟩ (by decide) (by decide) dX5_shortestMore_18 ?_
    refine ⟨ln, ext, nl, _, hln, rfl, hrd0.symm, ?_⟩
    unfold shS
    rw [if_pos (by omega)]
  · refine tt_aload_n X rfl dX5_shortestMore_8 ?_
    refine tt_geti X fX5_50 (k_41 _ _) (by decide) (Or.inl rfl) dX5_shortestMore_9 ?_
    refine tt_bipush X (by decide) dX5_shortestMore_12 ?_
    refine tt_icmp_le X 19 (by omega) dX5_shortestMore_14 (by decide) (fun b14 => ?_) (fun b14 => ?_)
    · refine tt_aload_n X rfl dX5_shortestMore_19 ?_
      refine tt_geti X fX5_50 (k_41 _ _) (by decide) (Or.inl rfl) dX5_shortestMore_20 ?_
      refine tt_if_ne X 28 (by omega) dX5_shortestMore_23 (by decide) (fun b23 => ?_) (fun b23 => ?_)
      · refine tt_aload_n X rfl dX5_shortestMore_28 ?_
        refine tt_vv X rfl mX5_78 (c_fillLeast l g ln ext _ n nl hn (hO (by omega) (by omega)) hln) (k_41 _ _) ⟨_, rfl, rfl⟩ rfl rfl (Nat.le_of_ble_eq_true rfl) (by decide) (by decide) (by decide) dX5_shortestMore_29 (fun L29 μ29 hp => ?_)
        obtain ⟨ln2, ext2, nl2, F, hg2, hn2, rfl, hF, e29⟩ := hp
        subst e29
        have hrd : ∀ k, k < 88 → k ≠ 44 → ot_uc μ ln2 F k = μ k := fun k h1 h2 => gLn_rd hg2 μ F k h1 h2
        have hn12 : n ≤ 12 := by omega
        have hp := p12 hn12
        have hnl4 := hg2.2.2.2
        have hDk := lnD_ok (hO (by omega) hn12)
        have hev2 := hev (by omega)
        have hn2p : 2 ≤ n := by omega
        refine tt_iconst X dX5_shortestMore_32 ?_
        refine tt_aload_n X rfl dX5_shortestMore_33 ?_
        refine tt_geti X fX5_50 (k_41 _ _) (by decide) (Or.inl rfl) dX5_shortestMore_34 ?_
        try simp (disch := decide) only [ot_rd, ot_rs, ot_rf, ot_ucd, ot_ucs, hrd]
        refine tt_ishl X dX5_shortestMore_37 ?_
        refine tt_top (y := ((2 ^ n : Nat) : Int)) (by rw [hn, bo_shl1 n (by omega)]) ?_
        refine tt_iconst X dX5_shortestMore_38 ?_
        refine tt_isub X dX5_shortestMore_39 ?_
        refine tt_top (y := ((2 ^ n - 1 : Nat) : Int)) (by omega) ?_
        refine tt_istore_n X dX5_shortestMore_40 (by decide) ?_
        refine tt_iconst X dX5_shortestMore_41 ?_
        refine tt_istore_n X dX5_shortestMore_42 (by decide) ?_
        refine tt_iconst X dX5_shortestMore_43 ?_
        refine tt_istore_n X dX5_shortestMore_44 (by decide) ?_
        refine tt_loc [(0, _), (1, _), (2, _), (3, _)] ⟨rfl, rfl, rfl, rfl, trivial⟩ ?_
        refine tt_loop (α := Nat × Int) (fun ((i, v)) => n - i) (fun ((i, v)) => i ≤ n ∧ sS (lnD n (μ 2) (μ 3) (μ 43)) n i 0 v ∧ (-1 ≤ v ∧ v ≤ 1000)) (fun ((i, v)) => ot_uc μ ln2 F) (fun ((i, v)) => [(0, .inr 41), (1, .inl ((2 ^ n - 1 : Nat) : Int)), (2, .inl v), (3, .inl (i : Int))]) (0, -1) ⟨Nat.zero_le _, .inl ⟨rfl, fun x y _ _ h => by omega⟩, by show -1 ≤ (-1 : Int) ∧ (-1 : Int) ≤ 1000; decide⟩ ?_
        intro a hI ih
        obtain ⟨i, v⟩ := a
        try dsimp only at hI ih ⊢
        replace hI : i ≤ n ∧ sS (lnD n (μ 2) (μ 3) (μ 43)) n i 0 v ∧ (-1 ≤ v ∧ v ≤ 1000) := hI
        have hi := hI.1
        refine tt_iload_n X rfl dX5_shortestMore_45 ?_
        refine tt_aload_n X rfl dX5_shortestMore_46 ?_
        refine tt_geti X fX5_50 (k_41 _ _) (by decide) (Or.inl rfl) dX5_shortestMore_47 ?_
        try simp (disch := decide) only [ot_rd, ot_rs, ot_rf, ot_ucd, ot_ucs, hrd]
        refine tt_icmp_ge X 110 (by first | omega | (simp (disch := decide) only [ot_rd, ot_rs, ot_rf, ot_ucd, ot_ucs, hrd]; omega)) dX5_shortestMore_50 (by decide) (fun b50 => ?_) (fun b50 => ?_)
        · refine tt_iload_n X rfl dX5_shortestMore_110 ?_
          refine tt_iret X ⟨hr.1, hr.2.1⟩ (by decide) (by decide) dX5_shortestMore_111 ?_
          refine ⟨ln2, ext2, nl2, F, hg2, rfl, rfl, ?_⟩
          unfold shS
          rw [if_neg (by omega), if_neg (by omega)]
          exact sS_done (by omega) hn2p hI.2.1
        · refine tt_iload_n X rfl dX5_shortestMore_53 ?_
          refine tt_iconst X dX5_shortestMore_54 ?_
          refine tt_iadd X dX5_shortestMore_55 ?_
          refine tt_istore X dX5_shortestMore_56 (by decide) ?_
          refine tt_loc [(0, _), (1, _), (2, _), (3, _), (4, _)] ⟨rfl, rfl, rfl, rfl, rfl, trivial⟩ ?_
          refine tt_loop (α := Nat × Int) (fun ((j, v2)) => n - j) (fun ((j, v2)) => (i + 1 ≤ j ∧ j ≤ n) ∧ sS (lnD n (μ 2) (μ 3) (μ 43)) n i j v2 ∧ (-1 ≤ v2 ∧ v2 ≤ 1000)) (fun ((j, v2)) => ot_uc μ ln2 F) (fun ((j, v2)) => [(0, .inr 41), (1, .inl ((2 ^ n - 1 : Nat) : Int)), (2, .inl v2), (3, .inl (i : Int)), (4, .inl (j : Int))]) (i + 1, v) ⟨⟨Nat.le_refl _, by show i + 1 ≤ n; omega⟩, sS_in hI.2.1, hI.2.2⟩ ?_
          intro a hI2 ih2
          obtain ⟨j, v2⟩ := a
          try dsimp only at hI2 ih2 ⊢
          replace hI2 : (i + 1 ≤ j ∧ j ≤ n) ∧ sS (lnD n (μ 2) (μ 3) (μ 43)) n i j v2 ∧ (-1 ≤ v2 ∧ v2 ≤ 1000) := hI2
          have hj := hI2.1
          have hv2 := hI2.2.2
          refine tt_iload X rfl dX5_shortestMore_58 ?_
          refine tt_aload_n X rfl dX5_shortestMore_60 ?_
          refine tt_geti X fX5_50 (k_41 _ _) (by decide) (Or.inl rfl) dX5_shortestMore_61 ?_
          try simp (disch := decide) only [ot_rd, ot_rs, ot_rf, ot_ucd, ot_ucs, hrd]
          refine tt_icmp_ge X 104 (by first | omega | (simp (disch := decide) only [ot_rd, ot_rs, ot_rf, ot_ucd, ot_ucs, hrd]; omega)) dX5_shortestMore_64 (by decide) (fun b64 => ?_) (fun b64 => ?_)
          · refine tt_iinc X dX5_shortestMore_104 rfl (by decide) ?_
            refine tt_goto X 45 dX5_shortestMore_107 (by decide) ?_
            refine tt_loc [(0, _), (1, _), (2, _), (3, _)] ⟨rfl, rfl, rfl, rfl, trivial⟩ ?_
            exact ih (i + 1, v2) ⟨by show i + 1 ≤ n; omega, sS_row (by omega) hI2.2.1, hI2.2.2⟩ (by show n - (i + 1) < n - i; omega)
          · refine tt_aload_n X rfl dX5_shortestMore_67 ?_
            refine tt_getr X fX5_18 (k_41 _ _) (by decide) ⟨nofun, nofun⟩ rfl dX5_shortestMore_68 ?_
            refine tt_iload_n X rfl dX5_shortestMore_71 ?_
            refine tt_iconst X dX5_shortestMore_72 ?_
            refine tt_iload_n X rfl dX5_shortestMore_73 ?_
            refine tt_ishl X dX5_shortestMore_74 ?_
            refine tt_ixor X dX5_shortestMore_75 ?_
            refine tt_iconst X dX5_shortestMore_76 ?_
            refine tt_iload X rfl dX5_shortestMore_77 ?_
            refine tt_ishl X dX5_shortestMore_79 ?_
            refine tt_ixor X dX5_shortestMore_80 ?_
            refine tt_top (xo2 hn12 (by omega) (by omega) (by omega)) ?_
            have hat := all_two (n := n) (i := i) (j := j) (by omega) (by omega)
            refine tt_iaload X hg2.1 (by have := hat.2; omega) dX5_shortestMore_81 ?_
            try simp (disch := decide) only [ot_rd, ot_rs, ot_rf, ot_ucd, ot_ucs, hrd]
            refine tt_top (hF _ hat.2 (by omega)) ?_
            obtain ⟨x, hxd⟩ : ∃ x, x = (tT (lnD n (μ 2) (μ 3) (μ 43)) n) ((2 ^ n - 1) ^^^ 2 ^ i ^^^ 2 ^ j) := ⟨_, rfl⟩
            have hx1 := tT_ok hDk _ _ (Nat.lt_succ_self _) hat.2 (by omega)
            have hx4 : 0 ≤ x ∧ x ≤ 1000 := by omega
            have hnx := sS_next (by omega) (by omega) hI2.2.1 hxd hx4.1
            refine tt_top (y := x) hxd.symm ?_
            refine tt_istore X dX5_shortestMore_82 (by decide) ?_
            refine tt_iload_n X rfl dX5_shortestMore_84 ?_
            refine tt_iconst X dX5_shortestMore_85 ?_
            refine tt_icmp_eq X 95 (by first | omega | (simp (disch := decide) only [ot_rd, ot_rs, ot_rf, ot_ucd, ot_ucs, hrd]; omega)) dX5_shortestMore_86 (by decide) (fun b86 => ?_) (fun b86 => ?_)
            · refine tt_iload X rfl dX5_shortestMore_95 ?_
              refine tt_istore_n X dX5_shortestMore_97 (by decide) ?_
              refine tt_iinc X dX5_shortestMore_98 rfl (by decide) ?_
              refine tt_goto X 58 dX5_shortestMore_101 (by decide) ?_
              refine tt_loc [(0, _), (1, _), (2, _), (3, _), (4, _)] ⟨rfl, rfl, rfl, rfl, rfl, trivial⟩ ?_
              first
                | exact ih2 (j + 1, x) ⟨by show i + 1 ≤ j + 1 ∧ j + 1 ≤ n; omega, hnx.1 (by omega), by show -1 ≤ x ∧ x ≤ 1000; omega⟩ (by show n - (j + 1) < n - j; omega)
                | exact ih2 (j + 1, v2) ⟨by show i + 1 ≤ j + 1 ∧ j + 1 ≤ n; omega, hnx.2 (by omega), hI2.2.2⟩ (by show n - (j + 1) < n - j; omega)
            · refine tt_iload X rfl dX5_shortestMore_89 ?_
              refine tt_iload_n X rfl dX5_shortestMore_91 ?_
              refine tt_icmp_ge X 98 (by first | omega | (simp (disch := decide) only [ot_rd, ot_rs, ot_rf, ot_ucd, ot_ucs, hrd]; omega)) dX5_shortestMore_92 (by decide) (fun b92 => ?_) (fun b92 => ?_)
              · refine tt_iinc X dX5_shortestMore_98 rfl (by decide) ?_
                refine tt_goto X 58 dX5_shortestMore_101 (by decide) ?_
                refine tt_loc [(0, _), (1, _), (2, _), (3, _), (4, _)] ⟨rfl, rfl, rfl, rfl, rfl, trivial⟩ ?_
                first
                  | exact ih2 (j + 1, x) ⟨by show i + 1 ≤ j + 1 ∧ j + 1 ≤ n; omega, hnx.1 (by omega), by show -1 ≤ x ∧ x ≤ 1000; omega⟩ (by show n - (j + 1) < n - j; omega)
                  | exact ih2 (j + 1, v2) ⟨by show i + 1 ≤ j + 1 ∧ j + 1 ≤ n; omega, hnx.2 (by omega), hI2.2.2⟩ (by show n - (j + 1) < n - j; omega)
              · refine tt_iload X rfl dX5_shortestMore_95 ?_
                refine tt_istore_n X dX5_shortestMore_97 (by decide) ?_
                refine tt_iinc X dX5_shortestMore_98 rfl (by decide) ?_
                refine tt_goto X 58 dX5_shortestMore_101 (by decide) ?_
                refine tt_loc [(0, _), (1, _), (2, _), (3, _), (4, _)] ⟨rfl, rfl, rfl, rfl, rfl, trivial⟩ ?_
                first
                  | exact ih2 (j + 1, x) ⟨by show i + 1 ≤ j + 1 ∧ j + 1 ≤ n; omega, hnx.1 (by omega), by show -1 ≤ x ∧ x ≤ 1000; omega⟩ (by show n - (j + 1) < n - j; omega)
                  | exact ih2 (j + 1, v2) ⟨by show i + 1 ≤ j + 1 ∧ j + 1 ≤ n; omega, hnx.2 (by omega), hI2.2.2⟩ (by show n - (j + 1) < n - j; omega)
      · refine tt_iconst X dX5_shortestMore_26 ?_
        refine tt_iret X ⟨hr.1, hr.2.1⟩ (by decide) (by decide) dX5_shortestMore_27 ?_
        refine ⟨ln, ext, nl, _, hln, rfl, hrd0.symm, ?_⟩
        unfold shS
        rw [if_neg (by omega), if_pos (by omega)]
    · refine tt_iconst X dX5_shortestMore_17 ?_
      refine tt_iret X ⟨hr.1, hr.2.1⟩ (by decide) (by decide) dX5_shortestMore_18 ?_
      refine ⟨ln, ext, nl, _, hln, rfl, hrd0.symm, ?_⟩
      unfold shS
      rw [if_pos (by omega)]

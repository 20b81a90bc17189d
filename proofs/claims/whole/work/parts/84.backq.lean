theorem and_all {L : Nat} {x : Int} (hL : L ≤ 30) (hx : 0 ≤ x ∧ x < ((2 ^ L : Nat) : Int)) : ot_and (((2 ^ L : Nat) : Int) - 1) x = x := by
  have hp := Nat.two_pow_pos L
  have hlt : 2 ^ L < 2147483648 := Nat.lt_of_le_of_lt (Nat.pow_le_pow_right (by decide) hL) (by decide)
  have e1 : (((2 ^ L : Nat) : Int) - 1) = ((2 ^ L - 1 : Nat) : Int) := by omega
  have e2 : x = (x.toNat : Int) := by omega
  rw [e1, e2, bo_and _ _ (by omega), Nat.and_comm, Nat.and_two_pow_sub_one_eq_mod, Nat.mod_eq_of_lt (by omega)]
theorem shl_all {L : Int} (hL : 0 ≤ L ∧ L ≤ 20) : ot_shl 1 L - 1 = ((2 ^ L.toNat : Nat) : Int) - 1 ∧ (1 : Int) ≤ ((2 ^ L.toNat : Nat) : Int) ∧ ((2 ^ L.toNat : Nat) : Int) ≤ 1048576 := by
  have hp := Nat.two_pow_pos L.toNat
  have hle : 2 ^ L.toNat ≤ 1048576 := Nat.le_trans (Nat.pow_le_pow_right (by decide) (show L.toNat ≤ 20 by omega)) (by decide)
  rw [bt_shl (by omega)]
  exact ⟨rfl, by omega, by omega⟩
theorem bkF_toNat (vl : Int → Bool) (s : Int × Int × Int) {x : Int} (h : 0 ≤ x) : bkF vl 0 (x + 1).toNat s = if vl x then noteS (bkF vl 0 x.toNat s) x else bkF vl 0 x.toNat s := by
  rw [show (x + 1).toNat = x.toNat + 1 by omega]
  show (if vl (0 + (x.toNat : Int)) then noteS (bkF vl 0 x.toNat s) (0 + (x.toNat : Int)) else bkF vl 0 x.toNat s) = _
  rw [show 0 + (x.toNat : Int) = x by omega]
set_option maxRecDepth 100000 in
set_option maxHeartbeats 1000000 in
theorem q_back (l : Launch) (g : ot_G) (ln : Nat) (ext : ot_L) (μ : ot_M) (h0 : μ 60 0 = 0) (w : Int) (dl : Int → Int → Int) (vl : Int → Bool) (hdl : dl = (fun x k => dkL (μ 60 1) (μ 61) (μ 62) (μ 69) (μ 70) (μ 60 11).toNat x k)) (hvl : vl = vlS (fun k => μ 68 k - 1) dl) (hw : -2147483648 ≤ w ∧ w ≤ 2147483647)(hM : 0 ≤ μ 60 11 ∧ μ 60 11 ≤ 20) (hG : gPin (μ 60 1) (μ 60 2) (μ 61) (μ 62)) (hset : ∀ i, 0 ≤ i → i < μ 60 11 → (0 ≤ μ 69 i ∧ μ 69 i < μ 60 2) ∧ (0 ≤ μ 70 i ∧ μ 70 i < μ 60 2) ∧ μ 69 i ≠ μ 70 i) (htl : ∀ k, 0 ≤ k → k < 64 → 0 ≤ μ 68 k ∧ μ 68 k ≤ 10000)  : ot_C l g yX10_back cX10_back 6 (some .int) 5 0 0 [.inr 60, .inl w] (LL ln ext) μ (ot_pi (fun r L2 μ2 => L2 = LL ln ext ∧ (∃ f D, μ2 = ot_uc (ot_uc μ 82 f) 83 D) ∧ r = (if (μ 60 11 ≤ 12 ∧ 0 ≤ w ∧ w ≤ 2) then (if w = 0 then (bkF (vlS (fun k => μ 68 k - 1) dl) 0 (2 ^ (μ 60 11).toNat) (0, -1, 0)).1 else if w = 1 then (bkF (vlS (fun k => μ 68 k - 1) dl) 0 (2 ^ (μ 60 11).toNat) (0, -1, 0)).2.1 else (bkF (vlS (fun k => μ 68 k - 1) dl) 0 (2 ^ (μ 60 11).toNat) (0, -1, 0)).2.2) else -2))) := by
  refine ot_enter (by decide) (Nat.le_of_ble_eq_true rfl) ?_
  intro p e s m args below meth c X hr
  have hpw := shl_all hM
  refine tt_aload_n X rfl dX10_back_0 ?_
  refine tt_iconst X dX10_back_1 ?_
  refine tt_puti X fX10_98 kc_10 (k_60 _ _) (by decide) (fun q hq => by cases hq; rfl) rfl dX10_back_2 ?_
  refine tt_mem (ot_nop h0) ?_
  refine tt_aload_n X rfl dX10_back_5 ?_
  refine tt_geti X fX10_108 (k_60 _ _) (by decide) (Or.inl rfl) dX10_back_6 ?_
  refine tt_bipush X (by decide) dX10_back_9 ?_
  refine tt_icmp_gt X 24 (by omega) dX10_back_11 (by decide) (fun b11 => ?_) (fun b11 => ?_)
  · refine tt_bipush X (by decide) dX10_back_24 ?_
    refine tt_iret X ⟨hr.1, hr.2.1⟩ (by decide) (by decide) dX10_back_26 ?_
    exact ⟨rfl, ⟨μ 82, μ 83, by rw [ot_uc_self, ot_uc_self]⟩, by rw [if_neg (by omega)]⟩
  · refine tt_aload_n X rfl dX10_back_14 ?_
    refine tt_iload_n X rfl dX10_back_15 ?_
    refine tt_iconst X dX10_back_16 ?_
    refine tt_iconst X dX10_back_17 ?_
    refine tt_vi X rfl mX10_104 (q_isIn l g ln ext _ _ _ _ (by first | omega | (simp (disch := decide) only [ot_rd, ot_rs, ot_rf, ot_ucd, ot_ucs]; omega)) (by first | omega | (simp (disch := decide) only [ot_rd, ot_rs, ot_rf, ot_ucd, ot_ucs]; omega)) (by first | omega | (simp (disch := decide) only [ot_rd, ot_rs, ot_rf, ot_ucd, ot_ucs]; omega))) (k_60 _ _) ⟨_, rfl, rfl⟩ rfl rfl (Nat.le_of_ble_eq_true rfl) (by decide) (by decide) (by decide) dX10_back_18 (fun z18 L18 μ18 hp => ?_)
    obtain ⟨rfl, e18, hz18⟩ := hp
    replace e18 := e18.symm
    subst e18
    refine tt_if_ne X 27 (by first | omega | (simp (disch := decide) only [ot_rd, ot_rs, ot_rf, ot_ucd, ot_ucs]; omega)) dX10_back_21 (by decide) (fun b21 => ?_) (fun b21 => ?_)
    · refine tt_iconst X dX10_back_27 ?_
      refine tt_istore_n X dX10_back_28 (by decide) ?_
      refine tt_iconst X dX10_back_29 ?_
      refine tt_istore_n X dX10_back_30 (by decide) ?_
      refine tt_aload_n X rfl dX10_back_31 ?_
      refine tt_vi X rfl mX10_278 (q_allLines l g ln ext _) (k_60 _ _) ⟨_, rfl, rfl⟩ rfl rfl (Nat.le_of_ble_eq_true rfl) (by decide) (by decide) (by decide) dX10_back_32 (fun z32 L32 μ32 hp => ?_)
      obtain ⟨rfl, e32, hz32⟩ := hp
      replace e32 := e32.symm
      subst e32
      try simp (disch := decide) only [ot_rd, ot_rs, ot_rf, ot_ucd, ot_ucs, ot_rdf] at hz32
      rw [hpw.1] at hz32
      refine tt_istore X dX10_back_35 (by decide) ?_
      refine tt_iconst X dX10_back_37 ?_
      refine tt_istore X dX10_back_38 (by decide) ?_
      refine tt_mem (μ' := ot_uc (ot_uc μ 82 (μ 82)) 83 (μ 83)) (by rw [ot_uc_self, ot_uc_self]) ?_
      refine tt_loc [(0, _), (1, _), (2, _), (3, _), (4, _), (5, _)] ⟨rfl, rfl, rfl, rfl, rfl, rfl, trivial⟩ ?_
      refine tt_loop (α := Int × Int × Int × Int × Int × ((Int → Int) × (Int → Int))) (fun ((x, a, b, c0, al, F)) => (((2 ^ (μ 60 11).toNat : Nat) : Int) - x).toNat) (fun ((x, a, b, c0, al, F)) => (0 ≤ x ∧ x ≤ ((2 ^ (μ 60 11).toNat : Nat) : Int)) ∧ (a, b, c0) = bkF vl 0 x.toNat (0, -1, 0) ∧ al = (if a = 0 then ((2 ^ (μ 60 11).toNat : Nat) : Int) - 1 else c0) ∧ (0 ≤ a ∧ a ≤ x) ∧ (a = 0 → c0 = 0 ∧ b = -1)) (fun ((x, a, b, c0, al, F)) => ot_uc (ot_uc μ 82 F.1) 83 F.2) (fun ((x, a, b, c0, al, F)) => [(0, .inr 60), (1, .inl w), (2, .inl a), (3, .inl b), (4, .inl al), (5, .inl x)]) (0, 0, -1, 0, z32, (μ 82, μ 83)) ⟨by show 0 ≤ (0 : Int) ∧ (0 : Int) ≤ ((2 ^ (μ 60 11).toNat : Nat) : Int); omega, rfl, by show z32 = if (0 : Int) = 0 then ((2 ^ (μ 60 11).toNat : Nat) : Int) - 1 else 0; rw [if_pos rfl]; exact hz32, by show (0 : Int) ≤ 0 ∧ (0 : Int) ≤ 0; omega, fun _ => ⟨rfl, rfl⟩⟩ ?_
      intro a hI ih
      obtain ⟨x, a, b, c0, al, F⟩ := a
      try dsimp only at hI ih ⊢
      replace hI : (0 ≤ x ∧ x ≤ ((2 ^ (μ 60 11).toNat : Nat) : Int)) ∧ (a, b, c0) = bkF vl 0 x.toNat (0, -1, 0) ∧ al = (if a = 0 then ((2 ^ (μ 60 11).toNat : Nat) : Int) - 1 else c0) ∧ (0 ≤ a ∧ a ≤ x) ∧ (a = 0 → c0 = 0 ∧ b = -1) := hI
      have hx := hI.1
      have ha := hI.2.2.2.1
      refine tt_iload X rfl dX10_back_40 ?_
      refine tt_aload_n X rfl dX10_back_42 ?_
      refine tt_vi X rfl mX10_278 (q_allLines l g ln ext _) (k_60 _ _) ⟨_, rfl, rfl⟩ rfl rfl (Nat.le_of_ble_eq_true rfl) (by decide) (by decide) (by decide) dX10_back_43 (fun z43 L43 μ43 hp => ?_)
      obtain ⟨rfl, e43, hz43⟩ := hp
      replace e43 := e43.symm
      subst e43
      try simp (disch := decide) only [ot_rd, ot_rs, ot_rf, ot_ucd, ot_ucs, ot_rdf] at hz43
      rw [hpw.1] at hz43
      refine tt_icmp_gt X 89 (by first | omega | (simp (disch := decide) only [ot_rd, ot_rs, ot_rf, ot_ucd, ot_ucs]; omega)) dX10_back_46 (by decide) (fun b46 => ?_) (fun b46 => ?_)
      · refine tt_iload_n X rfl dX10_back_89 ?_
        refine tt_if_ne X 97 (by first | omega | (simp (disch := decide) only [ot_rd, ot_rs, ot_rf, ot_ucd, ot_ucs]; omega)) dX10_back_90 (by decide) (fun b90 => ?_) (fun b90 => ?_)
        · refine tt_iload_n X rfl dX10_back_97 ?_
          refine tt_iconst X dX10_back_98 ?_
          refine tt_icmp_ne X 106 (by first | omega | (simp (disch := decide) only [ot_rd, ot_rs, ot_rf, ot_ucd, ot_ucs]; omega)) dX10_back_99 (by decide) (fun b99 => ?_) (fun b99 => ?_)
          · refine tt_iload_n X rfl dX10_back_106 ?_
            refine tt_if_ne X 114 (by first | omega | (simp (disch := decide) only [ot_rd, ot_rs, ot_rf, ot_ucd, ot_ucs]; omega)) dX10_back_107 (by decide) (fun b107 => ?_) (fun b107 => ?_)
            · refine tt_iload X rfl dX10_back_114 ?_
              refine tt_iret X ⟨hr.1, hr.2.1⟩ (by decide) (by decide) dX10_back_116 ?_
              refine ⟨rfl, ⟨_, _, rfl⟩, ?_⟩
              have hxe : x = ((2 ^ (μ 60 11).toNat : Nat) : Int) := by omega
              have hR := hI.2.1
              rw [hxe, Int.toNat_natCast] at hR
              rw [if_pos (by omega), ← hvl, ← hR]
              have hval := hI.2.2.1
              first
                | (rw [if_pos (by omega)]; done)
                | (rw [if_neg (by omega), if_pos (by omega)]; done)
                | (rw [if_neg (by omega), if_neg (by omega)]; exact (hI.2.2.2.2 (by omega)).1.symm)
                | (rw [if_neg (by omega), if_neg (by omega), hval, if_neg (by omega)])
            · refine tt_iconst X dX10_back_110 ?_
              refine tt_goto X 116 dX10_back_111 (by decide) ?_
              refine tt_iret X ⟨hr.1, hr.2.1⟩ (by decide) (by decide) dX10_back_116 ?_
              refine ⟨rfl, ⟨_, _, rfl⟩, ?_⟩
              have hxe : x = ((2 ^ (μ 60 11).toNat : Nat) : Int) := by omega
              have hR := hI.2.1
              rw [hxe, Int.toNat_natCast] at hR
              rw [if_pos (by omega), ← hvl, ← hR]
              have hval := hI.2.2.1
              first
                | (rw [if_pos (by omega)]; done)
                | (rw [if_neg (by omega), if_pos (by omega)]; done)
                | (rw [if_neg (by omega), if_neg (by omega)]; exact (hI.2.2.2.2 (by omega)).1.symm)
                | (rw [if_neg (by omega), if_neg (by omega), hval, if_neg (by omega)])
          · refine tt_iload_n X rfl dX10_back_102 ?_
            refine tt_goto X 116 dX10_back_103 (by decide) ?_
            refine tt_iret X ⟨hr.1, hr.2.1⟩ (by decide) (by decide) dX10_back_116 ?_
            refine ⟨rfl, ⟨_, _, rfl⟩, ?_⟩
            have hxe : x = ((2 ^ (μ 60 11).toNat : Nat) : Int) := by omega
            have hR := hI.2.1
            rw [hxe, Int.toNat_natCast] at hR
            rw [if_pos (by omega), ← hvl, ← hR]
            have hval := hI.2.2.1
            first
              | (rw [if_pos (by omega)]; done)
              | (rw [if_neg (by omega), if_pos (by omega)]; done)
              | (rw [if_neg (by omega), if_neg (by omega)]; exact (hI.2.2.2.2 (by omega)).1.symm)
              | (rw [if_neg (by omega), if_neg (by omega), hval, if_neg (by omega)])
        · refine tt_iload_n X rfl dX10_back_93 ?_
          refine tt_goto X 116 dX10_back_94 (by decide) ?_
          refine tt_iret X ⟨hr.1, hr.2.1⟩ (by decide) (by decide) dX10_back_116 ?_
          refine ⟨rfl, ⟨_, _, rfl⟩, ?_⟩
          have hxe : x = ((2 ^ (μ 60 11).toNat : Nat) : Int) := by omega
          have hR := hI.2.1
          rw [hxe, Int.toNat_natCast] at hR
          rw [if_pos (by omega), ← hvl, ← hR]
          have hval := hI.2.2.1
          first
            | (rw [if_pos (by omega)]; done)
            | (rw [if_neg (by omega), if_pos (by omega)]; done)
            | (rw [if_neg (by omega), if_neg (by omega)]; exact (hI.2.2.2.2 (by omega)).1.symm)
            | (rw [if_neg (by omega), if_neg (by omega), hval, if_neg (by omega)])
      · refine tt_aload_n X rfl dX10_back_49 ?_
        refine tt_iload X rfl dX10_back_50 ?_
        refine tt_vi X rfl mX10_311 (q_areAsTold l g ln ext _ x dl (by simp (disch := decide) only [ot_rd, ot_rs, ot_rf, ot_ucd, ot_ucs, ot_rdf]; exact hdl) (by omega) (by simp (disch := decide) only [ot_rd, ot_rs, ot_rf, ot_ucd, ot_ucs, ot_rdf]; omega) (by simp (disch := decide) only [ot_rd, ot_rs, ot_rf, ot_ucd, ot_ucs, ot_rdf]; exact hG) (by simp (disch := decide) only [ot_rd, ot_rs, ot_rf, ot_ucd, ot_ucs, ot_rdf]; exact hset) (by simp (disch := decide) only [ot_rd, ot_rs, ot_rf, ot_ucd, ot_ucs, ot_rdf]; exact htl)) (k_60 _ _) ⟨_, rfl, rfl⟩ rfl rfl (Nat.le_of_ble_eq_true rfl) (by decide) (by decide) (by decide) dX10_back_52 (fun z52 L52 μ52 hp => ?_)
        obtain ⟨rfl, hz52, f2, D2, rfl⟩ := hp
        simp (disch := decide) only [ot_rd, ot_rs, ot_rf, ot_ucd, ot_ucs, ot_rdf] at hz52
        rw [← hvl] at hz52
        refine tt_mem (μ' := ot_uc (ot_uc μ 82 f2) 83 D2) (by funext u; by_cases u2 : u = 82 <;> by_cases u3 : u = 83 <;> simp [ot_uc, u2, u3]) ?_
        refine tt_if_ne X 61 (by first | omega | (simp (disch := decide) only [ot_rd, ot_rs, ot_rf, ot_ucd, ot_ucs]; omega)) dX10_back_55 (by decide) (fun b55 => ?_) (fun b55 => ?_)
        · refine tt_iload_n X rfl dX10_back_61 ?_
          refine tt_if_ne X 70 (by first | omega | (simp (disch := decide) only [ot_rd, ot_rs, ot_rf, ot_ucd, ot_ucs]; omega)) dX10_back_62 (by decide) (fun b62 => ?_) (fun b62 => ?_)
          · refine tt_iload_n X rfl dX10_back_70 ?_
            refine tt_istore_n X dX10_back_71 (by decide) ?_
            refine tt_iload X rfl dX10_back_72 ?_
            refine tt_iload X rfl dX10_back_74 ?_
            refine tt_iand X dX10_back_76 ?_
            refine tt_istore X dX10_back_77 (by decide) ?_
            refine tt_iload_n X rfl dX10_back_79 ?_
            refine tt_iconst X dX10_back_80 ?_
            refine tt_iadd X dX10_back_81 ?_
            refine tt_istore_n X dX10_back_82 (by decide) ?_
            refine tt_iinc X dX10_back_83 rfl (by decide) ?_
            refine tt_goto X 40 dX10_back_86 (by decide) ?_
            refine tt_loc [(0, _), (1, _), (2, _), (3, _), (4, _), (5, _)] ⟨rfl, rfl, rfl, rfl, rfl, rfl, trivial⟩ ?_
            have e := bkF_toNat vl (0, -1, 0) hx.1
            rw [← hI.2.1] at e
            have hval := hI.2.2.1
            first
              | (have hv : vl x = false := ite_nil hz52 (by omega)
                 rw [hv] at e
                 exact ih (x + 1, a, b, c0, al, (f2, D2)) ⟨by show 0 ≤ x + 1 ∧ x + 1 ≤ ((2 ^ (μ 60 11).toNat : Nat) : Int); omega, e.symm, hI.2.2.1, by show 0 ≤ a ∧ a ≤ x + 1; omega, hI.2.2.2.2⟩ (by show (((2 ^ (μ 60 11).toNat : Nat) : Int) - (x + 1)).toNat < (((2 ^ (μ 60 11).toNat : Nat) : Int) - x).toNat; omega))
              | (have hv : vl x = true := ite_one hz52 (by omega)
                 rw [hv] at e
                 replace e : bkF vl 0 (x + 1).toNat (0, -1, 0) = noteS (a, b, c0) x := e
                 unfold noteS at e
                 dsimp only at e
                 first
                   | (have ha0 : a = 0 := by omega
                      rw [if_pos ha0] at e hval
                      refine ih (x + 1, a + 1, x, x, ot_and al x, (f2, D2)) ⟨by show 0 ≤ x + 1 ∧ x + 1 ≤ ((2 ^ (μ 60 11).toNat : Nat) : Int); omega, by show (a + 1, x, x) = _; rw [e, ha0]; rfl, ?_, by show 0 ≤ a + 1 ∧ a + 1 ≤ x + 1; omega, fun q => absurd q (by show ¬ a + 1 = 0; omega)⟩ (by show (((2 ^ (μ 60 11).toNat : Nat) : Int) - (x + 1)).toNat < (((2 ^ (μ 60 11).toNat : Nat) : Int) - x).toNat; omega)
                      show ot_and al x = if a + 1 = 0 then _ else x
                      rw [if_neg (by omega), hval, and_all (by omega) (by omega)])
                   | (have ha0 : a ≠ 0 := by omega
                      rw [if_neg ha0] at e hval
                      refine ih (x + 1, a + 1, b, ot_and c0 x, ot_and al x, (f2, D2)) ⟨by show 0 ≤ x + 1 ∧ x + 1 ≤ ((2 ^ (μ 60 11).toNat : Nat) : Int); omega, by show (a + 1, b, ot_and c0 x) = _; rw [e], ?_, by show 0 ≤ a + 1 ∧ a + 1 ≤ x + 1; omega, fun q => absurd q (by show ¬ a + 1 = 0; omega)⟩ (by show (((2 ^ (μ 60 11).toNat : Nat) : Int) - (x + 1)).toNat < (((2 ^ (μ 60 11).toNat : Nat) : Int) - x).toNat; omega)
                      show ot_and al x = if a + 1 = 0 then _ else ot_and c0 x
                      rw [if_neg (by omega), hval]))
          · refine tt_iload X rfl dX10_back_65 ?_
            refine tt_goto X 71 dX10_back_67 (by decide) ?_
            refine tt_istore_n X dX10_back_71 (by decide) ?_
            refine tt_iload X rfl dX10_back_72 ?_
            refine tt_iload X rfl dX10_back_74 ?_
            refine tt_iand X dX10_back_76 ?_
            refine tt_istore X dX10_back_77 (by decide) ?_
            refine tt_iload_n X rfl dX10_back_79 ?_
            refine tt_iconst X dX10_back_80 ?_
            refine tt_iadd X dX10_back_81 ?_
            refine tt_istore_n X dX10_back_82 (by decide) ?_
            refine tt_iinc X dX10_back_83 rfl (by decide) ?_
            refine tt_goto X 40 dX10_back_86 (by decide) ?_
            refine tt_loc [(0, _), (1, _), (2, _), (3, _), (4, _), (5, _)] ⟨rfl, rfl, rfl, rfl, rfl, rfl, trivial⟩ ?_
            have e := bkF_toNat vl (0, -1, 0) hx.1
            rw [← hI.2.1] at e
            have hval := hI.2.2.1
            first
              | (have hv : vl x = false := ite_nil hz52 (by omega)
                 rw [hv] at e
                 exact ih (x + 1, a, b, c0, al, (f2, D2)) ⟨by show 0 ≤ x + 1 ∧ x + 1 ≤ ((2 ^ (μ 60 11).toNat : Nat) : Int); omega, e.symm, hI.2.2.1, by show 0 ≤ a ∧ a ≤ x + 1; omega, hI.2.2.2.2⟩ (by show (((2 ^ (μ 60 11).toNat : Nat) : Int) - (x + 1)).toNat < (((2 ^ (μ 60 11).toNat : Nat) : Int) - x).toNat; omega))
              | (have hv : vl x = true := ite_one hz52 (by omega)
                 rw [hv] at e
                 replace e : bkF vl 0 (x + 1).toNat (0, -1, 0) = noteS (a, b, c0) x := e
                 unfold noteS at e
                 dsimp only at e
                 first
                   | (have ha0 : a = 0 := by omega
                      rw [if_pos ha0] at e hval
                      refine ih (x + 1, a + 1, x, x, ot_and al x, (f2, D2)) ⟨by show 0 ≤ x + 1 ∧ x + 1 ≤ ((2 ^ (μ 60 11).toNat : Nat) : Int); omega, by show (a + 1, x, x) = _; rw [e, ha0]; rfl, ?_, by show 0 ≤ a + 1 ∧ a + 1 ≤ x + 1; omega, fun q => absurd q (by show ¬ a + 1 = 0; omega)⟩ (by show (((2 ^ (μ 60 11).toNat : Nat) : Int) - (x + 1)).toNat < (((2 ^ (μ 60 11).toNat : Nat) : Int) - x).toNat; omega)
                      show ot_and al x = if a + 1 = 0 then _ else x
                      rw [if_neg (by omega), hval, and_all (by omega) (by omega)])
                   | (have ha0 : a ≠ 0 := by omega
                      rw [if_neg ha0] at e hval
                      refine ih (x + 1, a + 1, b, ot_and c0 x, ot_and al x, (f2, D2)) ⟨by show 0 ≤ x + 1 ∧ x + 1 ≤ ((2 ^ (μ 60 11).toNat : Nat) : Int); omega, by show (a + 1, b, ot_and c0 x) = _; rw [e], ?_, by show 0 ≤ a + 1 ∧ a + 1 ≤ x + 1; omega, fun q => absurd q (by show ¬ a + 1 = 0; omega)⟩ (by show (((2 ^ (μ 60 11).toNat : Nat) : Int) - (x + 1)).toNat < (((2 ^ (μ 60 11).toNat : Nat) : Int) - x).toNat; omega)
                      show ot_and al x = if a + 1 = 0 then _ else ot_and c0 x
                      rw [if_neg (by omega), hval]))
        · refine tt_goto X 83 dX10_back_58 (by decide) ?_
          refine tt_iinc X dX10_back_83 rfl (by decide) ?_
          refine tt_goto X 40 dX10_back_86 (by decide) ?_
          refine tt_loc [(0, _), (1, _), (2, _), (3, _), (4, _), (5, _)] ⟨rfl, rfl, rfl, rfl, rfl, rfl, trivial⟩ ?_
          have e := bkF_toNat vl (0, -1, 0) hx.1
          rw [← hI.2.1] at e
          have hval := hI.2.2.1
          first
            | (have hv : vl x = false := ite_nil hz52 (by omega)
               rw [hv] at e
               exact ih (x + 1, a, b, c0, al, (f2, D2)) ⟨by show 0 ≤ x + 1 ∧ x + 1 ≤ ((2 ^ (μ 60 11).toNat : Nat) : Int); omega, e.symm, hI.2.2.1, by show 0 ≤ a ∧ a ≤ x + 1; omega, hI.2.2.2.2⟩ (by show (((2 ^ (μ 60 11).toNat : Nat) : Int) - (x + 1)).toNat < (((2 ^ (μ 60 11).toNat : Nat) : Int) - x).toNat; omega))
            | (have hv : vl x = true := ite_one hz52 (by omega)
               rw [hv] at e
               replace e : bkF vl 0 (x + 1).toNat (0, -1, 0) = noteS (a, b, c0) x := e
               unfold noteS at e
               dsimp only at e
               first
                 | (have ha0 : a = 0 := by omega
                    rw [if_pos ha0] at e hval
                    refine ih (x + 1, a + 1, x, x, ot_and al x, (f2, D2)) ⟨by show 0 ≤ x + 1 ∧ x + 1 ≤ ((2 ^ (μ 60 11).toNat : Nat) : Int); omega, by show (a + 1, x, x) = _; rw [e, ha0]; rfl, ?_, by show 0 ≤ a + 1 ∧ a + 1 ≤ x + 1; omega, fun q => absurd q (by show ¬ a + 1 = 0; omega)⟩ (by show (((2 ^ (μ 60 11).toNat : Nat) : Int) - (x + 1)).toNat < (((2 ^ (μ 60 11).toNat : Nat) : Int) - x).toNat; omega)
                    show ot_and al x = if a + 1 = 0 then _ else x
                    rw [if_neg (by omega), hval, and_all (by omega) (by omega)])
                 | (have ha0 : a ≠ 0 := by omega
                    rw [if_neg ha0] at e hval
                    refine ih (x + 1, a + 1, b, ot_and c0 x, ot_and al x, (f2, D2)) ⟨by show 0 ≤ x + 1 ∧ x + 1 ≤ ((2 ^ (μ 60 11).toNat : Nat) : Int); omega, by show (a + 1, b, ot_and c0 x) = _; rw [e], ?_, by show 0 ≤ a + 1 ∧ a + 1 ≤ x + 1; omega, fun q => absurd q (by show ¬ a + 1 = 0; omega)⟩ (by show (((2 ^ (μ 60 11).toNat : Nat) : Int) - (x + 1)).toNat < (((2 ^ (μ 60 11).toNat : Nat) : Int) - x).toNat; omega)
                    show ot_and al x = if a + 1 = 0 then _ else ot_and c0 x
                    rw [if_neg (by omega), hval]))
    · refine tt_bipush X (by decide) dX10_back_24 ?_
      refine tt_iret X ⟨hr.1, hr.2.1⟩ (by decide) (by decide) dX10_back_26 ?_
      exact ⟨rfl, ⟨μ 82, μ 83, by rw [ot_uc_self, ot_uc_self]⟩, by rw [if_neg (by omega)]⟩

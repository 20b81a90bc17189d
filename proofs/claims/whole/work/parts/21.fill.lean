-- fill
set_option maxRecDepth 100000 in
set_option maxHeartbeats 4000000 in
theorem c_fill (l : Launch) (g : ot_G) (ln : Nat) (ext : ot_L) (μ : ot_M) {L : ot_L} {rs : List (Option Nat)} (k0 n : Nat) (v : Int) (hk : L[k0]? = some (0, n, rs)) (hn : n ≤ 2000000) : ot_C l g yJ7_fill_53178 cJ7_fill_53178 4 none 0 0 0 [.inr k0, .inl v] L μ (ot_pv (fun L2 μ2 => L2 = L ∧ μ2 = ot_uc μ k0 (ot_fl (μ k0) n v))) := by
  refine ot_enter (by decide) (Nat.le_of_ble_eq_true rfl) ?_
  intro p e s m args below meth c X hr
  refine tt_iconst X dJ7_fill_53178_0 ?_
  refine tt_istore_n X dJ7_fill_53178_1 (by decide) ?_
  refine tt_aload_n X rfl dJ7_fill_53178_2 ?_
  refine tt_alen X hk (by decide) dJ7_fill_53178_3 ?_
  refine tt_istore_n X dJ7_fill_53178_4 (by decide) ?_
  refine tt_mem (μ' := ot_uc μ k0 (ot_fl (μ k0) 0 v)) (by rw [show ot_fl (μ k0) 0 v = μ k0 from funext fun j => by simp only [ot_fl]; rw [if_neg (by omega)]]; exact ot_uc_self.symm) ?_
  refine tt_loc [(0, _), (1, _), (2, _), (3, _)] ⟨rfl, rfl, rfl, rfl, trivial⟩ ?_
  refine tt_loop (α := Int) (fun i => ((n : Int) - i).toNat) (fun i => 0 ≤ i ∧ i ≤ n) (fun i => ot_uc μ k0 (ot_fl (μ k0) i v)) (fun i => [(0, .inr k0), (1, .inl v), (2, .inl i), (3, .inl (n : Int))]) 0 (by omega) ?_
  intro i hI ih
  try dsimp only at hI ih ⊢
  refine tt_iload_n X rfl dJ7_fill_53178_5 ?_
  refine tt_iload_n X rfl dJ7_fill_53178_6 ?_
  refine tt_icmp_ge X 20 (by first | omega | (simp (disch := decide) only [ot_rd, ot_rs, ot_rf, ot_ucd, ot_ucs]; omega)) dJ7_fill_53178_7 (by decide) (fun b7 => ?_) (fun b7 => ?_)
  · refine tt_vret X ⟨hr.1, hr.2.1⟩ (by decide) (by decide) dJ7_fill_53178_20 ?_
    refine ⟨rfl, ?_⟩
    rw [show i = (n : Int) by omega]
  · refine tt_aload_n X rfl dJ7_fill_53178_10 ?_
    refine tt_iload_n X rfl dJ7_fill_53178_11 ?_
    refine tt_iload_n X rfl dJ7_fill_53178_12 ?_
    refine tt_iastore X hk (by first | omega | (simp (disch := decide) only [ot_rd, ot_rs, ot_rf, ot_ucd, ot_ucs]; omega)) dJ7_fill_53178_13 ?_
    refine tt_iinc X dJ7_fill_53178_14 rfl (by decide) ?_
    refine tt_goto X 5 dJ7_fill_53178_17 (by decide) ?_
    refine tt_loc [(0, _), (1, _), (2, _), (3, _)] ⟨rfl, rfl, rfl, rfl, trivial⟩ ?_
    refine tt_mem (μ' := ot_uc μ k0 (ot_fl (μ k0) (i + 1) v)) ?_ ?_
    · rw [ot_uc_up]; exact ot_uc_eq (fun j => by simp only [ot_fl]; split <;> split <;> (try split) <;> (first | rfl | omega))
    exact ih (i + 1) (by omega) (by omega)

/-- image of the reference, whole -/
def imQ (μ : ot_M) (t r : Int) (μ2 : ot_M) : Prop := if t = 1 then (r = 1 ∧ tkP μ μ2 1690) else if μ 60 46 = 1 then (r = 1 ∧ ∃ σ, rsP μ σ 1690 ∧ μ2 = ot_up σ 60 14 0) else (r = 0 ∧ μ2 = μ)
theorem q_image (l : Launch) (g : ot_G) (ln : Nat) (ext : ot_L) (μ : ot_M) (h0 : μ 60 0 = 0) (t : Int) (ht : t = 0 ∨ t = 1) (hI : μ 60 46 = 0 ∨ μ 60 46 = 1) : ot_C l g yX10_image cX10_image 3 (some .boolean) 2 0 0 [.inr 60, .inl t] (LL ln ext) μ (ot_pi (fun r L2 μ2 => L2 = LL ln ext ∧ imQ μ t r μ2)) := by
  rcases ht with w | w
  · subst w
    rcases hI with w2 | w2
    · have e : (fun (r : Int) (L2 : ot_L) (μ2 : ot_M) => L2 = LL ln ext ∧ imQ μ 0 r μ2) = (fun r L2 μ2 => L2 = LL ln ext ∧ r = 0 ∧ μ2 = μ) := by
        funext r L2 μ2
        unfold imQ
        rw [if_neg (by decide), if_neg (by omega)]
      rw [e]
      exact q_imageN l g ln ext μ h0 w2
    · have e : (fun (r : Int) (L2 : ot_L) (μ2 : ot_M) => L2 = LL ln ext ∧ imQ μ 0 r μ2) = (fun r L2 μ2 => L2 = LL ln ext ∧ r = 1 ∧ ∃ σ, rsP μ σ 1690 ∧ μ2 = ot_up σ 60 14 0) := by
        funext r L2 μ2
        unfold imQ
        rw [if_neg (by decide), if_pos w2]
      rw [e]
      exact q_imageR l g ln ext μ h0 w2
  · subst w
    have e : (fun (r : Int) (L2 : ot_L) (μ2 : ot_M) => L2 = LL ln ext ∧ imQ μ 1 r μ2) = (fun r L2 μ2 => L2 = LL ln ext ∧ r = 1 ∧ tkP μ μ2 1690) := by
      funext r L2 μ2
      unfold imQ
      rw [if_pos rfl]
    rw [e]
    exact q_imageT l g ln ext μ h0
theorem v_imT {μ μ1 μ2 : ot_M} (h : rel μ) (eM : μ1 = ot_up (takeM17 μ) 0 2 1) (hq : tkP μ1 μ2 1690) : rel μ2 := by
  have hf : frQ μ μ1 := by
    rw [eM]
    unfold takeM17
    (repeat (first | exact fq_rfl | refine fq_uc ?_ (by omega) | refine fq_up ?_ (by omega)))
  obtain ⟨⟨x0, x1, x2, x11, x23, x14, x17, x35, x36, x46⟩, ⟨y61, y62, y66, y67, y63, y65, y64, y69, y70, y68, y72, y71⟩, z74, z75, z76, z77, z78⟩ := crQ h hf
  have hOk := h.1
  obtain ⟨s0, s1, s2, s3, s4, s5, s6, s7, s8, s9⟩ := h.2.2.2.2.2.2.1
  obtain ⟨a1, a2, a3, a4, a5, a6, a7, a8, a9, a10, a11, a12⟩ := h.2.2.2.2.2.2.2.1
  have a4k : ∀ k, μ 67 k + 1 = μ 5 k := fun k => congrFun a4 k
  have a10k : ∀ k, μ 68 k - 1 = μ 11 k := fun k => congrFun a10 k
  obtain ⟨hx2, g60', h47, h45, h46, h87⟩ := hq
  have g60 : ∀ i, (i ≠ 45 ∧ i ≠ 46 ∧ i ≠ 47) → μ2 60 i = μ1 60 i := fun i hi => g60' i hi.1 hi.2.1 hi.2.2
  have hx : ∀ k, k ∉ [0, 17, 18, 19, 20, 21, 22, 23, 24, 25, 26, 27, 28, 29, 30, 31] → μ1 k = μ k := fun k hk => by
    simp at hk
    rw [eM]
    funext i
    simp [takeM17, ot_up, ot_uc, hk]
  have g0 : ∀ i, i ≠ 2 → μ2 0 i = μ 0 i := fun i hi => by
    rw [hx2 0 (by decide), eM]
    simp [takeM17, ot_up, ot_uc, hi]
  have g02 : μ2 0 2 = 1 := by
    rw [hx2 0 (by decide), eM]
    simp [ot_up]
  have hL := h.2.2.2.2.2.1
  have k17 : μ1 17 11 = μ 1 11 ∧ μ1 17 12 = μ 1 12 ∧ μ1 17 13 = μ 1 13 ∧ μ1 28 4 = μ 12 4 := ⟨(by rw [eM]; first | (simp [takeM17, ot_up, ot_uc]; done) | (funext i; simp [takeM17, ot_up, ot_uc]; done)), (by rw [eM]; first | (simp [takeM17, ot_up, ot_uc]; done) | (funext i; simp [takeM17, ot_up, ot_uc]; done)), (by rw [eM]; first | (simp [takeM17, ot_up, ot_uc]; done) | (funext i; simp [takeM17, ot_up, ot_uc]; done)), (by rw [eM]; first | (simp [takeM17, ot_up, ot_uc]; done) | (funext i; simp [takeM17, ot_up, ot_uc]; done))⟩
  have k18 : μ1 18 = wr 24 (μ 18) (μ 2) := (by rw [eM]; first | (simp [takeM17, ot_up, ot_uc]; done) | (funext i; simp [takeM17, ot_up, ot_uc]; done))
  have k19 : μ1 19 = wr 24 (μ 19) (μ 3) := (by rw [eM]; first | (simp [takeM17, ot_up, ot_uc]; done) | (funext i; simp [takeM17, ot_up, ot_uc]; done))
  have k20 : μ1 20 = wr 256 (μ 20) (μ 4) := (by rw [eM]; first | (simp [takeM17, ot_up, ot_uc]; done) | (funext i; simp [takeM17, ot_up, ot_uc]; done))
  have k21 : μ1 21 = wr 64 (μ 21) (μ 5) := (by rw [eM]; first | (simp [takeM17, ot_up, ot_uc]; done) | (funext i; simp [takeM17, ot_up, ot_uc]; done))
  have k22 : μ1 22 = wr 3 (μ 22) (μ 6) := (by rw [eM]; first | (simp [takeM17, ot_up, ot_uc]; done) | (funext i; simp [takeM17, ot_up, ot_uc]; done))
  have k23 : μ1 23 = wr 360 (μ 23) (μ 7) := (by rw [eM]; first | (simp [takeM17, ot_up, ot_uc]; done) | (funext i; simp [takeM17, ot_up, ot_uc]; done))
  have k24 : μ1 24 = wr 3 (μ 24) (μ 8) := (by rw [eM]; first | (simp [takeM17, ot_up, ot_uc]; done) | (funext i; simp [takeM17, ot_up, ot_uc]; done))
  have k25 : μ1 25 = wr 20 (μ 25) (μ 9) := (by rw [eM]; first | (simp [takeM17, ot_up, ot_uc]; done) | (funext i; simp [takeM17, ot_up, ot_uc]; done))
  have k26 : μ1 26 = wr 20 (μ 26) (μ 10) := (by rw [eM]; first | (simp [takeM17, ot_up, ot_uc]; done) | (funext i; simp [takeM17, ot_up, ot_uc]; done))
  have k27 : μ1 27 = wr 64 (μ 27) (μ 11) := (by rw [eM]; first | (simp [takeM17, ot_up, ot_uc]; done) | (funext i; simp [takeM17, ot_up, ot_uc]; done))
  have k29 : μ1 29 = wr 400 (μ 29) (μ 13) := (by rw [eM]; first | (simp [takeM17, ot_up, ot_uc]; done) | (funext i; simp [takeM17, ot_up, ot_uc]; done))
  have k30 : μ1 30 = wr 16 (μ 30) (μ 14) := (by rw [eM]; first | (simp [takeM17, ot_up, ot_uc]; done) | (funext i; simp [takeM17, ot_up, ot_uc]; done))
  have k31 : μ1 31 = wr 16 (μ 31) (μ 15) := (by rw [eM]; first | (simp [takeM17, ot_up, ot_uc]; done) | (funext i; simp [takeM17, ot_up, ot_uc]; done))
  refine ⟨(rOk_c h.1 (congrFun ((hx2 1 (by decide)).trans (hx 1 (by decide))) 11) (congrFun ((hx2 1 (by decide)).trans (hx 1 (by decide))) 12) (congrFun ((hx2 1 (by decide)).trans (hx 1 (by decide))) 13) ((hx2 2 (by decide)).trans (hx 2 (by decide))) ((hx2 3 (by decide)).trans (hx 3 (by decide))) ((hx2 4 (by decide)).trans (hx 4 (by decide))) ((hx2 5 (by decide)).trans (hx 5 (by decide))) ((hx2 6 (by decide)).trans (hx 6 (by decide))) ((hx2 7 (by decide)).trans (hx 7 (by decide))) ((hx2 8 (by decide)).trans (hx 8 (by decide))) ((hx2 9 (by decide)).trans (hx 9 (by decide))) ((hx2 10 (by decide)).trans (hx 10 (by decide))) ((hx2 11 (by decide)).trans (hx 11 (by decide)))), (rCh_c h.2.1 (congrFun ((hx2 1 (by decide)).trans (hx 1 (by decide))) 11) (congrFun ((hx2 1 (by decide)).trans (hx 1 (by decide))) 12) ((hx2 2 (by decide)).trans (hx 2 (by decide))) ((hx2 3 (by decide)).trans (hx 3 (by decide))) ((hx2 38 (by decide)).trans (hx 38 (by decide))) ((hx2 39 (by decide)).trans (hx 39 (by decide)))), (rCl_c h.2.2.1 (congrFun ((hx2 1 (by decide)).trans (hx 1 (by decide))) 11) ((hx2 2 (by decide)).trans (hx 2 (by decide))) ((hx2 3 (by decide)).trans (hx 3 (by decide))) ((hx2 8 (by decide)).trans (hx 8 (by decide))) ((hx2 7 (by decide)).trans (hx 7 (by decide))) ((hx2 6 (by decide)).trans (hx 6 (by decide))) ((hx2 34 (by decide)).trans (hx 34 (by decide))) ((hx2 35 (by decide)).trans (hx 35 (by decide)))), (rUn_c h.2.2.2.1 (g0 14 (by decide)) ((hx2 59 (by decide)).trans (hx 59 (by decide))) ((hx2 8 (by decide)).trans (hx 8 (by decide)))), (rTp_c h.2.2.2.2.1 (g0 10 (by decide)) ((hx2 58 (by decide)).trans (hx 58 (by decide)))), (rLw_c h.2.2.2.2.2.1 ((hx2 13 (by decide)).trans (hx 13 (by decide))) ((hx2 14 (by decide)).trans (hx 14 (by decide))) ((hx2 15 (by decide)).trans (hx 15 (by decide))) (congrFun ((hx2 12 (by decide)).trans (hx 12 (by decide))) 4) ((hx2 77 (by decide)).trans (hx 77 (by decide))) ((hx2 78 (by decide)).trans (hx 78 (by decide))) ((hx2 74 (by decide)).trans (hx 74 (by decide))) ((hx2 75 (by decide)).trans (hx 75 (by decide))) ((hx2 76 (by decide)).trans (hx 76 (by decide))) ((hx2 53 (by decide)).trans (hx 53 (by decide))) (by rw [g60 21 (by decide), hf 60 (by decide) (by decide)]) ((hx2 73 (by decide)).trans (hx 73 (by decide)))), ⟨((g60 0 (by decide)).trans x0), (by rw [g60 1 (by decide), x1]; exact ((congrFun ((hx2 1 (by decide)).trans (hx 1 (by decide))) 11)).symm), (by rw [g60 2 (by decide), x2]; exact ((congrFun ((hx2 1 (by decide)).trans (hx 1 (by decide))) 12)).symm), (by rw [g60 11 (by decide), x11]; exact ((congrFun ((hx2 1 (by decide)).trans (hx 1 (by decide))) 13)).symm), (by rw [g60 23 (by decide), x23]; exact ((congrFun ((hx2 12 (by decide)).trans (hx 12 (by decide))) 4)).symm), (by rw [g60 14 (by decide), x14]; exact ((g0 14 (by decide))).symm), (by rw [g60 17 (by decide), x17]; exact ((g0 10 (by decide))).symm), (by rw [g60 35 (by decide), x35]; exact ((g0 11 (by decide))).symm), (by rw [g60 36 (by decide), x36]; exact ((g0 12 (by decide))).symm), (h46.trans g02.symm)⟩, ⟨(by rw [hx2 61 (by decide)]; exact y61.trans (((hx2 2 (by decide)).trans (hx 2 (by decide)))).symm), (by rw [hx2 62 (by decide)]; exact y62.trans (((hx2 3 (by decide)).trans (hx 3 (by decide)))).symm), (by rw [hx2 66 (by decide)]; exact y66.trans (((hx2 4 (by decide)).trans (hx 4 (by decide)))).symm), (by rw [hx2 67 (by decide)]; exact y67.trans (((hx2 5 (by decide)).trans (hx 5 (by decide)))).symm), (by rw [hx2 63 (by decide)]; exact y63.trans (((hx2 6 (by decide)).trans (hx 6 (by decide)))).symm), (by rw [hx2 65 (by decide)]; exact y65.trans (((hx2 7 (by decide)).trans (hx 7 (by decide)))).symm), (by rw [hx2 64 (by decide)]; exact y64.trans (((hx2 8 (by decide)).trans (hx 8 (by decide)))).symm), (by rw [hx2 69 (by decide)]; exact y69.trans (((hx2 9 (by decide)).trans (hx 9 (by decide)))).symm), (by rw [hx2 70 (by decide)]; exact y70.trans (((hx2 10 (by decide)).trans (hx 10 (by decide)))).symm), (by rw [hx2 68 (by decide)]; exact y68.trans (((hx2 11 (by decide)).trans (hx 11 (by decide)))).symm), (by rw [hx2 72 (by decide)]; exact y72.trans (((hx2 58 (by decide)).trans (hx 58 (by decide)))).symm), (by rw [hx2 71 (by decide)]; exact y71.trans (((hx2 59 (by decide)).trans (hx 59 (by decide)))).symm)⟩, Or.inr g02, fun _ => ?_⟩
  refine ⟨?_, ?_, ?_, ?_⟩
  · rw [hx2 17 (by decide), hx2 18 (by decide), hx2 19 (by decide), hx2 20 (by decide), hx2 21 (by decide), hx2 22 (by decide), hx2 23 (by decide), hx2 24 (by decide), hx2 25 (by decide), hx2 26 (by decide), hx2 27 (by decide), k17.1, k17.2.1, k17.2.2.1, k18, k19, k20, k21, k22, k23, k24, k25, k26, k27]
    exact okS_cg hOk (fun i i1 i2 => ⟨wr_in ⟨i1, i2⟩, wr_in ⟨i1, i2⟩⟩) (fun i i1 i2 => wr_in ⟨i1, i2⟩) (fun i i1 i2 => ⟨wr_in ⟨i1, i2⟩, wr_in ⟨i1, i2⟩⟩) (fun i i1 i2 => ⟨wr_in ⟨i1, i2⟩, wr_in ⟨i1, i2⟩⟩) (fun i i1 i2 => wr_in ⟨i1, i2⟩) (fun i i1 i2 => ⟨wr_in ⟨i1, i2⟩, wr_in ⟨i1, i2⟩⟩)
  · rw [hx2 31 (by decide), k31]
    intro j j1 j2
    rw [wr_in ⟨j1, j2⟩]
    exact hL.2.1 j j1 j2
  · rw [hx2 29 (by decide), hx2 30 (by decide), hx2 31 (by decide), hx2 28 (by decide), k29, k30, k31, k17.2.2.2]
    refine gLaw_cg hL.1 (fun i i1 i2 => wr_in ⟨i1, i2⟩) (fun l l1 l2 => ⟨wr_in ⟨l1, l2⟩, wr_in ⟨l1, l2⟩, ?_, ?_, ?_⟩) (fun i i1 i2 => ⟨?_, ?_⟩)
    · show μ2 87 (842 + 3 * l) = _
      rw [h87 _ (by omega) (by omega), tkP_cell (ν := μ1) (cell_74 ⟨l1, l2⟩), z74]
    · show μ2 87 (842 + 3 * l + 1) = _
      rw [h87 _ (by omega) (by omega), tkP_cell (ν := μ1) (cell_75 ⟨l1, l2⟩), z75]
    · show μ2 87 (842 + 3 * l + 2) = _
      rw [h87 _ (by omega) (by omega), tkP_cell (ν := μ1) (cell_76 ⟨l1, l2⟩), z76]
    · show μ2 87 (890 + 2 * i) = _
      rw [h87 _ (by omega) (by omega), tkP_cell (ν := μ1) (cell_77 ⟨i1, i2⟩), z77]
    · show μ2 87 (890 + 2 * i + 1) = _
      rw [h87 _ (by omega) (by omega), tkP_cell (ν := μ1) (cell_78 ⟨i1, i2⟩), z78]
  · unfold imE
    rw [hx2 17 (by decide), hx2 18 (by decide), hx2 19 (by decide), hx2 20 (by decide), hx2 21 (by decide), hx2 22 (by decide), hx2 23 (by decide), hx2 24 (by decide), hx2 25 (by decide), hx2 26 (by decide), hx2 27 (by decide), hx2 28 (by decide), k17.1, k17.2.1, k17.2.2.1, k17.2.2.2, k18, k19, k20, k21, k22, k23, k24, k25, k26, k27]
    have w67 : ∀ i, μ1 67 i + 1 = μ 5 i := fun i => congrFun y67 i
    have w68 : ∀ i, μ1 68 i - 1 = μ 11 i := fun i => congrFun y68 i
    refine ⟨⟨?_, ?_, ?_, ?_⟩, fun i i1 i2 => ⟨?_, ?_⟩, fun i i1 i2 => ⟨?_, ?_⟩, fun i i1 i2 => ?_, fun i i1 i2 => ?_, fun i i1 i2 => ⟨?_, ?_⟩, fun i i1 i2 => ⟨?_, ?_⟩⟩
    · rw [h87 _ (by omega) (by omega)]; exact x1
    · rw [h87 _ (by omega) (by omega)]; exact x2
    · rw [h87 _ (by omega) (by omega)]; exact x11
    · rw [h87 _ (by omega) (by omega)]; exact x23
    · rw [h87 _ (by omega) (by omega), tkP_cell (ν := μ1) (cell_61 ⟨i1, i2⟩), y61, wr_in ⟨i1, i2⟩]
    · rw [h87 _ (by omega) (by omega), tkP_cell (ν := μ1) (cell_62 ⟨i1, i2⟩), y62, wr_in ⟨i1, i2⟩]
    · rw [h87 _ (by omega) (by omega), tkP_cell (ν := μ1) (cell_63 ⟨i1, i2⟩), y63, wr_in ⟨i1, i2⟩]
    · rw [h87 _ (by omega) (by omega), tkP_cell (ν := μ1) (cell_64 ⟨i1, i2⟩), y64, wr_in ⟨i1, i2⟩]
    · rw [h87 _ (by omega) (by omega), tkP_cell (ν := μ1) (cell_65 ⟨i1, i2⟩), y65, wr_in ⟨i1, i2⟩]
    · rw [h87 _ (by omega) (by omega), tkP_cell (ν := μ1) (cell_66 ⟨i1, i2⟩), y66, wr_in ⟨i1, i2⟩]
    · rw [h87 _ (by omega) (by omega), tkP_cell (ν := μ1) (cell_67 ⟨i1, i2⟩), w67, wr_in ⟨i1, i2⟩]
    · rw [h87 _ (by omega) (by omega), tkP_cell (ν := μ1) (cell_68 ⟨i1, i2⟩), w68, wr_in ⟨i1, i2⟩]
    · rw [h87 _ (by omega) (by omega), tkP_cell (ν := μ1) (cell_69 ⟨i1, i2⟩), y69, wr_in ⟨i1, i2⟩]
    · rw [h87 _ (by omega) (by omega), tkP_cell (ν := μ1) (cell_70 ⟨i1, i2⟩), y70, wr_in ⟨i1, i2⟩]
theorem v_imR {μ μ1 μ2 σ : ot_M} {f z : Int → Int} (h : rel μ) (hI : μ 0 2 = 1) (hch : gChd ((takeM1 μ) 1 11) ((takeM1 μ) 1 12) ((takeM1 μ) 2) ((takeM1 μ) 3) f z) (eM : μ1 = ot_up (ot_uc (ot_uc (ot_uc (ot_uc (takeM1 μ) 38 f) 39 z) 34 (wr 64 ((takeM1 μ) 34) (dk ((takeM1 μ) 1 11) ((takeM1 μ) 2) ((takeM1 μ) 3) ((takeM1 μ) 8) ((takeM1 μ) 7) ((takeM1 μ) 6)))) 35 (wr 276 ((takeM1 μ) 35) (usC ((takeM1 μ) 8) ((takeM1 μ) 7)))) 0 14 0) (hq : rsP μ1 σ 1690) (eQ : μ2 = ot_up σ 60 14 0) : rel μ2 := by
  have hf : frQ μ μ1 := by
    rw [eM]
    unfold takeM1
    (repeat (first | exact fq_rfl | refine fq_uc ?_ (by omega) | refine fq_up ?_ (by omega)))
  obtain ⟨⟨x0, x1, x2, x11, x23, x14, x17, x35, x36, x46⟩, ⟨y61, y62, y66, y67, y63, y65, y64, y69, y70, y68, y72, y71⟩, z74, z75, z76, z77, z78⟩ := crQ h hf
  have hOk := h.1
  obtain ⟨s0, s1, s2, s3, s4, s5, s6, s7, s8, s9⟩ := h.2.2.2.2.2.2.1
  obtain ⟨a1, a2, a3, a4, a5, a6, a7, a8, a9, a10, a11, a12⟩ := h.2.2.2.2.2.2.2.1
  have a4k : ∀ k, μ 67 k + 1 = μ 5 k := fun k => congrFun a4 k
  have a10k : ∀ k, μ 68 k - 1 = μ 11 k := fun k => congrFun a10 k
  obtain ⟨hI1, hI2, hI3, hI4⟩ := h.2.2.2.2.2.2.2.2.2 hI
  obtain ⟨⟨j0, j1, j2, j3⟩, j4, j5, j6, j7, j8, j9⟩ := hI4
  obtain ⟨hs, h87, h47, h45, h46⟩ := hq
  have hcl : ∀ k, k < 60 → σ k = μ1 k := fun k hk => by
    funext x
    have hi : imgP k x = -1 := by
      unfold imgP
      rw [if_neg (by omega), if_neg (by omega), if_neg (by omega), if_neg (by omega), if_neg (by omega), if_neg (by omega), if_neg (by omega), if_neg (by omega), if_neg (by omega), if_neg (by omega), if_neg (by omega), if_neg (by omega), if_neg (by omega), if_neg (by omega), if_neg (by omega), if_neg (by omega)]
    rw [hs k x (by omega) (by omega), hi, if_neg (by decide)]
  have c2 : ∀ k, k < 60 → μ2 k = μ1 k := fun k hk => by
    rw [eQ, ← hcl k hk]
    funext i
    have : k ≠ 60 := by omega
    simp [ot_up, this]
  have e87 : μ1 87 = μ 87 := hf 87 (by decide) (by decide)
  have h287 : μ2 87 = μ 87 := by
    rw [← e87, ← h87, eQ]; funext i; simp [ot_up]
  have m2 : ∀ (A : Nat) (x p : Int) , 61 ≤ A → A < 80 → imgP A x = p → 0 ≤ p → p < 1690 → μ2 A x = μ 87 p := fun A x p a1 a2 e b1 b2 => by
    have : μ2 A x = σ A x := by
      rw [eQ]
      have hA : A ≠ 60 := by omega
      simp [ot_up, hA]
    rw [this, hs A x (by omega) (by omega), e, if_pos ⟨b1, b2⟩, e87]
  have m3 : ∀ (A : Nat) (x : Int), 61 ≤ A → A < 80 → imgP A x = -1 → μ2 A x = μ A x := fun A x a1 a2 e => by
    have : μ2 A x = σ A x := by
      rw [eQ]
      have hA : A ≠ 60 := by omega
      simp [ot_up, hA]
    rw [this, hs A x (by omega) (by omega), e, if_neg (by decide), hf A (by omega) (by omega)]
  have m60 : ∀ (x p : Int), x ≠ 14 → ¬ (45 ≤ x ∧ x ≤ 47) → imgP 60 x = p → 0 ≤ p → p < 1690 → μ2 60 x = μ 87 p := fun x p a1 a2 e b1 b2 => by
    have : μ2 60 x = σ 60 x := by rw [eQ]; simp [ot_up, a1]
    rw [this, hs 60 x (by omega) (by omega), e, if_pos ⟨b1, b2⟩, e87]
  have m6 : ∀ (x : Int), x ≠ 14 → ¬ (45 ≤ x ∧ x ≤ 47) → imgP 60 x = -1 → μ2 60 x = μ1 60 x := fun x a1 a2 e => by
    have : μ2 60 x = σ 60 x := by rw [eQ]; simp [ot_up, a1]
    rw [this, hs 60 x (by omega) (by omega), e, if_neg (by decide)]
  have k1 : μ2 1 11 = μ 17 11 ∧ μ2 1 12 = μ 17 12 ∧ μ2 1 13 = μ 17 13 ∧ μ2 12 4 = μ 28 4 := by
    rw [c2 1 (by decide), c2 12 (by decide)]
    exact ⟨(by rw [eM]; first | (simp [takeM1, ot_up, ot_uc]; done) | (funext i; simp [takeM1, ot_up, ot_uc]; done)), (by rw [eM]; first | (simp [takeM1, ot_up, ot_uc]; done) | (funext i; simp [takeM1, ot_up, ot_uc]; done)), (by rw [eM]; first | (simp [takeM1, ot_up, ot_uc]; done) | (funext i; simp [takeM1, ot_up, ot_uc]; done)), (by rw [eM]; first | (simp [takeM1, ot_up, ot_uc]; done) | (funext i; simp [takeM1, ot_up, ot_uc]; done))⟩
  have k2 : μ2 2 = wr 24 (μ 2) (μ 18) := by
    rw [c2 2 (by decide)]
    exact (by rw [eM]; first | (simp [takeM1, ot_up, ot_uc]; done) | (funext i; simp [takeM1, ot_up, ot_uc]; done))
  have k3 : μ2 3 = wr 24 (μ 3) (μ 19) := by
    rw [c2 3 (by decide)]
    exact (by rw [eM]; first | (simp [takeM1, ot_up, ot_uc]; done) | (funext i; simp [takeM1, ot_up, ot_uc]; done))
  have k4 : μ2 4 = wr 256 (μ 4) (μ 20) := by
    rw [c2 4 (by decide)]
    exact (by rw [eM]; first | (simp [takeM1, ot_up, ot_uc]; done) | (funext i; simp [takeM1, ot_up, ot_uc]; done))
  have k5 : μ2 5 = wr 64 (μ 5) (μ 21) := by
    rw [c2 5 (by decide)]
    exact (by rw [eM]; first | (simp [takeM1, ot_up, ot_uc]; done) | (funext i; simp [takeM1, ot_up, ot_uc]; done))
  have k6 : μ2 6 = wr 3 (μ 6) (μ 22) := by
    rw [c2 6 (by decide)]
    exact (by rw [eM]; first | (simp [takeM1, ot_up, ot_uc]; done) | (funext i; simp [takeM1, ot_up, ot_uc]; done))
  have k7 : μ2 7 = wr 360 (μ 7) (μ 23) := by
    rw [c2 7 (by decide)]
    exact (by rw [eM]; first | (simp [takeM1, ot_up, ot_uc]; done) | (funext i; simp [takeM1, ot_up, ot_uc]; done))
  have k8 : μ2 8 = wr 3 (μ 8) (μ 24) := by
    rw [c2 8 (by decide)]
    exact (by rw [eM]; first | (simp [takeM1, ot_up, ot_uc]; done) | (funext i; simp [takeM1, ot_up, ot_uc]; done))
  have k9 : μ2 9 = wr 20 (μ 9) (μ 25) := by
    rw [c2 9 (by decide)]
    exact (by rw [eM]; first | (simp [takeM1, ot_up, ot_uc]; done) | (funext i; simp [takeM1, ot_up, ot_uc]; done))
  have k10 : μ2 10 = wr 20 (μ 10) (μ 26) := by
    rw [c2 10 (by decide)]
    exact (by rw [eM]; first | (simp [takeM1, ot_up, ot_uc]; done) | (funext i; simp [takeM1, ot_up, ot_uc]; done))
  have k11 : μ2 11 = wr 64 (μ 11) (μ 27) := by
    rw [c2 11 (by decide)]
    exact (by rw [eM]; first | (simp [takeM1, ot_up, ot_uc]; done) | (funext i; simp [takeM1, ot_up, ot_uc]; done))
  have k13 : μ2 13 = wr 400 (μ 13) (μ 29) := by
    rw [c2 13 (by decide)]
    exact (by rw [eM]; first | (simp [takeM1, ot_up, ot_uc]; done) | (funext i; simp [takeM1, ot_up, ot_uc]; done))
  have k14 : μ2 14 = wr 16 (μ 14) (μ 30) := by
    rw [c2 14 (by decide)]
    exact (by rw [eM]; first | (simp [takeM1, ot_up, ot_uc]; done) | (funext i; simp [takeM1, ot_up, ot_uc]; done))
  have k15 : μ2 15 = wr 16 (μ 15) (μ 31) := by
    rw [c2 15 (by decide)]
    exact (by rw [eM]; first | (simp [takeM1, ot_up, ot_uc]; done) | (funext i; simp [takeM1, ot_up, ot_uc]; done))
  have t1 : takeM1 μ 1 11 = μ 17 11 ∧ takeM1 μ 1 12 = μ 17 12 := by
    unfold takeM1
    exact ⟨by simp [ot_up, ot_uc], by simp [ot_up, ot_uc]⟩
  have t2 : takeM1 μ 2 = wr 24 (μ 2) (μ 18) := by
    unfold takeM1
    funext i
    simp [ot_up, ot_uc]
  have t3 : takeM1 μ 3 = wr 24 (μ 3) (μ 19) := by
    unfold takeM1
    funext i
    simp [ot_up, ot_uc]
  have t6 : takeM1 μ 6 = wr 3 (μ 6) (μ 22) := by
    unfold takeM1
    funext i
    simp [ot_up, ot_uc]
  have t7 : takeM1 μ 7 = wr 360 (μ 7) (μ 23) := by
    unfold takeM1
    funext i
    simp [ot_up, ot_uc]
  have t8 : takeM1 μ 8 = wr 3 (μ 8) (μ 24) := by
    unfold takeM1
    funext i
    simp [ot_up, ot_uc]
  have g0 : ∀ i, i ≠ 14 → μ2 0 i = μ 0 i := fun i hi => by
    rw [c2 0 (by decide), eM]
    simp [takeM1, ot_up, ot_uc, hi]
  have hok : rOk μ2 := by
    unfold rOk
    rw [k1.1, k1.2.1, k1.2.2.1, k2, k3, k4, k5, k6, k7, k8, k9, k10, k11]
    exact okS_cg hI1 (fun i i1 i2 => ⟨wr_in ⟨i1, i2⟩, wr_in ⟨i1, i2⟩⟩) (fun i i1 i2 => wr_in ⟨i1, i2⟩) (fun i i1 i2 => ⟨wr_in ⟨i1, i2⟩, wr_in ⟨i1, i2⟩⟩) (fun i i1 i2 => ⟨wr_in ⟨i1, i2⟩, wr_in ⟨i1, i2⟩⟩) (fun i i1 i2 => wr_in ⟨i1, i2⟩) (fun i i1 i2 => ⟨wr_in ⟨i1, i2⟩, wr_in ⟨i1, i2⟩⟩)
  have hL := h.2.2.2.2.2.1
  refine ⟨hok, ?_, ?_, ?_, ?_, ⟨?_, ?_, ?_, ?_, ?_⟩, ⟨?_, ?_, ?_, ?_, ?_, ?_, ?_, ?_, ?_, ?_⟩, ⟨?_, ?_, ?_, ?_, ?_, ?_, ?_, ?_, ?_, ?_, ?_, ?_⟩, ?_⟩
  · unfold rCh
    rw [t1.1, t1.2, t2, t3] at hch
    rw [k1.1, k1.2.1, k2, k3, c2 38 (by decide), c2 39 (by decide), show μ1 38 = f from (by rw [eM]; first | (simp [takeM1, ot_up, ot_uc]; done) | (funext i; simp [takeM1, ot_up, ot_uc]; done)), show μ1 39 = z from (by rw [eM]; first | (simp [takeM1, ot_up, ot_uc]; done) | (funext i; simp [takeM1, ot_up, ot_uc]; done))]
    exact hch
  · unfold rCl
    rw [k1.1, k2, k3, k8, k7, k6, c2 34 (by decide), c2 35 (by decide)]
    have e34 : μ1 34 = wr 64 ((takeM1 μ) 34) (dk ((takeM1 μ) 1 11) ((takeM1 μ) 2) ((takeM1 μ) 3) ((takeM1 μ) 8) ((takeM1 μ) 7) ((takeM1 μ) 6)) := by rw [eM]; funext i; simp [ot_up, ot_uc]
    have e35 : μ1 35 = wr 276 ((takeM1 μ) 35) (usC ((takeM1 μ) 8) ((takeM1 μ) 7)) := by rw [eM]; funext i; simp [ot_up, ot_uc]
    rw [e34, e35, t1.1, t2, t3, t8, t7, t6]
    exact clo_wr
  · exact rUn_0 (by rw [c2 0 (by decide), eM]; simp [ot_up]) (fun t a1 a2 => (ok_ct hok t a1 a2).1)
  · unfold rTp
    rw [g0 10 (by decide), c2 58 (by decide), show μ1 58 = μ 58 from (by rw [eM]; first | (simp [takeM1, ot_up, ot_uc]; done) | (funext i; simp [takeM1, ot_up, ot_uc]; done))]
    exact h.2.2.2.2.1
  · rw [k13, k14, k15, k1.2.2.2]
    refine gLaw_cg hI3 (fun i i1 i2 => wr_in ⟨i1, i2⟩) (fun l l1 l2 => ⟨wr_in ⟨l1, l2⟩, wr_in ⟨l1, l2⟩, ?_, ?_, ?_⟩) (fun i i1 i2 => ⟨?_, ?_⟩)
    · exact m2 74 l _ (by decide) (by decide) (imgP_74 ⟨l1, l2⟩) (by omega) (by omega)
    · exact m2 75 l _ (by decide) (by decide) (imgP_75 ⟨l1, l2⟩) (by omega) (by omega)
    · exact m2 76 l _ (by decide) (by decide) (imgP_76 ⟨l1, l2⟩) (by omega) (by omega)
    · exact m2 77 i _ (by decide) (by decide) (imgP_77 ⟨i1, i2⟩) (by omega) (by omega)
    · exact m2 78 i _ (by decide) (by decide) (imgP_78 ⟨i1, i2⟩) (by omega) (by omega)
  · rw [k15]
    intro j a1 a2
    rw [wr_in ⟨a1, a2⟩]
    exact hI2 j a1 a2
  · unfold b53
    rw [c2 53 (by decide), show μ1 53 = μ 53 from (by rw [eM]; first | (simp [takeM1, ot_up, ot_uc]; done) | (funext i; simp [takeM1, ot_up, ot_uc]; done))]
    exact hL.2.2.1
  · rw [m6 21 (by decide) (by decide) (by rfl), hf 60 (by decide) (by decide)]; exact hL.2.2.2.1
  · have e73 : μ2 73 = μ 73 := by
      funext x
      exact m3 73 x (by decide) (by decide) rfl
    rw [e73]; exact hL.2.2.2.2
  · rw [m6 0 (by decide) (by decide) (by rfl)]; exact x0
  · rw [m60 1 0 (by decide) (by decide) (by rfl) (by decide) (by decide), k1.1]; exact j0
  · rw [m60 2 1 (by decide) (by decide) (by rfl) (by decide) (by decide), k1.2.1]; exact j1
  · rw [m60 11 800 (by decide) (by decide) (by rfl) (by decide) (by decide), k1.2.2.1]; exact j2
  · rw [m60 23 841 (by decide) (by decide) (by rfl) (by decide) (by decide), k1.2.2.2]; exact j3
  · rw [eQ]
    have : ot_up σ 60 14 0 0 14 = σ 0 14 := by simp [ot_up]
    rw [this, hcl 0 (by decide), eM]
    simp [ot_up]
  · rw [m6 17 (by decide) (by decide) (by rfl), x17, g0 10 (by decide)]
  · rw [m6 35 (by decide) (by decide) (by rfl), x35, g0 11 (by decide)]
  · rw [m6 36 (by decide) (by decide) (by rfl), x36, g0 12 (by decide)]
  · rw [g0 2 (by decide), hI]
    have : μ2 60 46 = σ 60 46 := by rw [eQ]; simp [ot_up]
    rw [this]; exact h46
  · funext x
    rw [k2]
    by_cases w : 0 ≤ x ∧ x < 24
    · rw [wr_in w, m2 61 x _ (by decide) (by decide) (imgP_61 w) (by omega) (by omega)]; exact (j4 x w.1 w.2).1
    · rw [wr_out w, m3 61 x (by decide) (by decide) (imgN_61 w)]; exact congrFun a1 x
  · funext x
    rw [k3]
    by_cases w : 0 ≤ x ∧ x < 24
    · rw [wr_in w, m2 62 x _ (by decide) (by decide) (imgP_62 w) (by omega) (by omega)]; exact (j4 x w.1 w.2).2
    · rw [wr_out w, m3 62 x (by decide) (by decide) (imgN_62 w)]; exact congrFun a2 x
  · funext x
    rw [k4]
    by_cases w : 0 ≤ x ∧ x < 256
    · rw [wr_in w, m2 66 x _ (by decide) (by decide) (imgP_66 w) (by omega) (by omega)]; exact j7 x w.1 w.2
    · rw [wr_out w, m3 66 x (by decide) (by decide) (imgN_66 w)]; exact congrFun a3 x
  · funext x
    show μ2 67 x + 1 = _
    rw [k5]
    by_cases w : 0 ≤ x ∧ x < 64
    · rw [wr_in w, m2 67 x _ (by decide) (by decide) (imgP_67 w) (by omega) (by omega)]; exact (j8 x w.1 w.2).1
    · rw [wr_out w, m3 67 x (by decide) (by decide) (imgN_67 w)]; exact a4k x
  · funext x
    rw [k6]
    by_cases w : 0 ≤ x ∧ x < 3
    · rw [wr_in w, m2 63 x _ (by decide) (by decide) (imgP_63 w) (by omega) (by omega)]; exact (j5 x w.1 w.2).1
    · rw [wr_out w, m3 63 x (by decide) (by decide) (imgN_63 w)]; exact congrFun a5 x
  · funext x
    rw [k7]
    by_cases w : 0 ≤ x ∧ x < 360
    · rw [wr_in w, m2 65 x _ (by decide) (by decide) (imgP_65 w) (by omega) (by omega)]; exact j6 x w.1 w.2
    · rw [wr_out w, m3 65 x (by decide) (by decide) (imgN_65 w)]; exact congrFun a6 x
  · funext x
    rw [k8]
    by_cases w : 0 ≤ x ∧ x < 3
    · rw [wr_in w, m2 64 x _ (by decide) (by decide) (imgP_64 w) (by omega) (by omega)]; exact (j5 x w.1 w.2).2
    · rw [wr_out w, m3 64 x (by decide) (by decide) (imgN_64 w)]; exact congrFun a7 x
  · funext x
    rw [k9]
    by_cases w : 0 ≤ x ∧ x < 20
    · rw [wr_in w, m2 69 x _ (by decide) (by decide) (imgP_69 w) (by omega) (by omega)]; exact (j9 x w.1 w.2).1
    · rw [wr_out w, m3 69 x (by decide) (by decide) (imgN_69 w)]; exact congrFun a8 x
  · funext x
    rw [k10]
    by_cases w : 0 ≤ x ∧ x < 20
    · rw [wr_in w, m2 70 x _ (by decide) (by decide) (imgP_70 w) (by omega) (by omega)]; exact (j9 x w.1 w.2).2
    · rw [wr_out w, m3 70 x (by decide) (by decide) (imgN_70 w)]; exact congrFun a9 x
  · funext x
    show μ2 68 x - 1 = _
    rw [k11]
    by_cases w : 0 ≤ x ∧ x < 64
    · rw [wr_in w, m2 68 x _ (by decide) (by decide) (imgP_68 w) (by omega) (by omega)]; exact (j8 x w.1 w.2).2
    · rw [wr_out w, m3 68 x (by decide) (by decide) (imgN_68 w)]; exact a10k x
  · rw [c2 58 (by decide), show μ1 58 = μ 58 from (by rw [eM]; first | (simp [takeM1, ot_up, ot_uc]; done) | (funext i; simp [takeM1, ot_up, ot_uc]; done))]
    rw [← a11]
    funext x
    exact m3 72 x (by decide) (by decide) rfl
  · rw [c2 59 (by decide), show μ1 59 = μ 59 from (by rw [eM]; first | (simp [takeM1, ot_up, ot_uc]; done) | (funext i; simp [takeM1, ot_up, ot_uc]; done))]
    rw [← a12]
    funext x
    exact m3 71 x (by decide) (by decide) rfl
  · refine rIm_c h.2.2.2.2.2.2.2.2 (g0 2 (by decide)) (by rw [c2 17 (by decide)]; exact (by rw [eM]; first | (simp [takeM1, ot_up, ot_uc]; done) | (funext i; simp [takeM1, ot_up, ot_uc]; done))) (by rw [c2 17 (by decide)]; exact (by rw [eM]; first | (simp [takeM1, ot_up, ot_uc]; done) | (funext i; simp [takeM1, ot_up, ot_uc]; done))) (by rw [c2 17 (by decide)]; exact (by rw [eM]; first | (simp [takeM1, ot_up, ot_uc]; done) | (funext i; simp [takeM1, ot_up, ot_uc]; done))) (by rw [c2 18 (by decide)]; exact (by rw [eM]; first | (simp [takeM1, ot_up, ot_uc]; done) | (funext i; simp [takeM1, ot_up, ot_uc]; done))) (by rw [c2 19 (by decide)]; exact (by rw [eM]; first | (simp [takeM1, ot_up, ot_uc]; done) | (funext i; simp [takeM1, ot_up, ot_uc]; done))) (by rw [c2 20 (by decide)]; exact (by rw [eM]; first | (simp [takeM1, ot_up, ot_uc]; done) | (funext i; simp [takeM1, ot_up, ot_uc]; done))) (by rw [c2 21 (by decide)]; exact (by rw [eM]; first | (simp [takeM1, ot_up, ot_uc]; done) | (funext i; simp [takeM1, ot_up, ot_uc]; done))) (by rw [c2 22 (by decide)]; exact (by rw [eM]; first | (simp [takeM1, ot_up, ot_uc]; done) | (funext i; simp [takeM1, ot_up, ot_uc]; done))) (by rw [c2 23 (by decide)]; exact (by rw [eM]; first | (simp [takeM1, ot_up, ot_uc]; done) | (funext i; simp [takeM1, ot_up, ot_uc]; done))) (by rw [c2 24 (by decide)]; exact (by rw [eM]; first | (simp [takeM1, ot_up, ot_uc]; done) | (funext i; simp [takeM1, ot_up, ot_uc]; done))) (by rw [c2 25 (by decide)]; exact (by rw [eM]; first | (simp [takeM1, ot_up, ot_uc]; done) | (funext i; simp [takeM1, ot_up, ot_uc]; done))) (by rw [c2 26 (by decide)]; exact (by rw [eM]; first | (simp [takeM1, ot_up, ot_uc]; done) | (funext i; simp [takeM1, ot_up, ot_uc]; done))) (by rw [c2 27 (by decide)]; exact (by rw [eM]; first | (simp [takeM1, ot_up, ot_uc]; done) | (funext i; simp [takeM1, ot_up, ot_uc]; done))) (by rw [c2 28 (by decide)]; exact (by rw [eM]; first | (simp [takeM1, ot_up, ot_uc]; done) | (funext i; simp [takeM1, ot_up, ot_uc]; done))) (by rw [c2 29 (by decide)]; exact (by rw [eM]; first | (simp [takeM1, ot_up, ot_uc]; done) | (funext i; simp [takeM1, ot_up, ot_uc]; done))) (by rw [c2 30 (by decide)]; exact (by rw [eM]; first | (simp [takeM1, ot_up, ot_uc]; done) | (funext i; simp [takeM1, ot_up, ot_uc]; done))) (by rw [c2 31 (by decide)]; exact (by rw [eM]; first | (simp [takeM1, ot_up, ot_uc]; done) | (funext i; simp [takeM1, ot_up, ot_uc]; done))) h287
theorem v_image {μ μ1 μ2 : ot_M} {r1 r2 t : Int} (h : rel μ) (ht : t = 0 ∨ t = 1) (hc : ((t = 1 ∧ r1 = 1 ∧ μ1 = ot_up (takeM17 μ) 0 2 1) ∨ (t = 0 ∧ μ 0 2 = 0 ∧ r1 = 0 ∧ μ1 = μ) ∨ (t = 0 ∧ μ 0 2 = 1 ∧ r1 = 1 ∧ ∃ f z, gChd ((takeM1 μ) 1 11) ((takeM1 μ) 1 12) ((takeM1 μ) 2) ((takeM1 μ) 3) f z ∧ μ1 = ot_up (ot_uc (ot_uc (ot_uc (ot_uc (takeM1 μ) 38 f) 39 z) 34 (wr 64 ((takeM1 μ) 34) (dk ((takeM1 μ) 1 11) ((takeM1 μ) 2) ((takeM1 μ) 3) ((takeM1 μ) 8) ((takeM1 μ) 7) ((takeM1 μ) 6)))) 35 (wr 276 ((takeM1 μ) 35) (usC ((takeM1 μ) 8) ((takeM1 μ) 7)))) 0 14 0))) (hq : imQ μ1 t r2 μ2) : r1 = r2 ∧ rel μ2 := by
  have hS := h.2.2.2.2.2.2.1
  unfold imQ at hq
  rcases hc with ⟨w, rC, eC⟩ | ⟨w, w2, rC, eC⟩ | ⟨w, w2, rC, f, z, hch, eC⟩
  · rw [if_pos w] at hq
    exact ⟨by rw [rC, hq.1], v_imT h eC hq.2⟩
  · rw [if_neg (by omega), eC, if_neg (by rw [hS.2.2.2.2.2.2.2.2.2]; omega)] at hq
    rw [hq.2]
    exact ⟨by rw [rC, hq.1], h⟩
  · have hf : μ1 60 46 = 1 := by
      rw [← w2, ← hS.2.2.2.2.2.2.2.2.2, eC]
      simp [takeM1, ot_up, ot_uc]
    rw [if_neg (by omega), if_pos hf] at hq
    obtain ⟨rQ, σ, hs, eQ⟩ := hq
    exact ⟨by rw [rC, rQ], v_imR h w2 hch eC hs eQ⟩
theorem fr_image {μ μ1 : ot_M} {r1 t : Int} (hc : ((t = 1 ∧ r1 = 1 ∧ μ1 = ot_up (takeM17 μ) 0 2 1) ∨ (t = 0 ∧ μ 0 2 = 0 ∧ r1 = 0 ∧ μ1 = μ) ∨ (t = 0 ∧ μ 0 2 = 1 ∧ r1 = 1 ∧ ∃ f z, gChd ((takeM1 μ) 1 11) ((takeM1 μ) 1 12) ((takeM1 μ) 2) ((takeM1 μ) 3) f z ∧ μ1 = ot_up (ot_uc (ot_uc (ot_uc (ot_uc (takeM1 μ) 38 f) 39 z) 34 (wr 64 ((takeM1 μ) 34) (dk ((takeM1 μ) 1 11) ((takeM1 μ) 2) ((takeM1 μ) 3) ((takeM1 μ) 8) ((takeM1 μ) 7) ((takeM1 μ) 6)))) 35 (wr 276 ((takeM1 μ) 35) (usC ((takeM1 μ) 8) ((takeM1 μ) 7)))) 0 14 0))) : frQ μ μ1 := by
  rcases hc with ⟨w, rC, eC⟩ | ⟨w, w2, rC, eC⟩ | ⟨w, w2, rC, f, z, hch, eC⟩
  · rw [eC]
    unfold takeM17
    (repeat (first | exact fq_rfl | refine fq_uc ?_ (by omega) | refine fq_up ?_ (by omega)))
  · rw [eC]; exact fq_rfl
  · rw [eC]
    unfold takeM1
    (repeat (first | exact fq_rfl | refine fq_uc ?_ (by omega) | refine fq_up ?_ (by omega)))

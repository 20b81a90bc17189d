theorem unC_s {f : Int → Int} {u t : Int} (hu : 0 ≤ u) : unC f (u + 1) t = unC f u t + (if f u = t then 1 else 0) := by
  unfold unC
  rw [sumN_toNat _ hu]
theorem unC_nn {f : Int → Int} {u t : Int} : 0 ≤ unC f u t := sumN_nn (fun i _ _ => by split <;> decide)
theorem unC_cg {f g : Int → Int} {u t : Int} (h : ∀ i, 0 ≤ i → i < u → f i = g i) : unC f u t = unC g u t := by
  unfold unC
  exact sumN_congr (fun i i1 i2 => by rw [h i i1 (by omega)])
theorem sumN_shift (f : Int → Int) : ∀ n : Nat, sumN (fun i => f (i + 1)) n + f 0 = sumN f (n + 1)
  | 0 => by rw [sumN_succ]; rfl
  | n + 1 => by
    have ih := sumN_shift f n
    rw [sumN_succ _ (n + 1), sumN_succ _ n, ← ih]
    rw [show ((n + 1 : Nat) : Int) = (n : Int) + 1 by omega]
    omega
theorem un_push {f ct : Int → Int} {u t : Int} (hu : 0 ≤ u ∧ u ≤ 40) (hf : ∀ i, 0 ≤ i → i < u → 0 ≤ f i ∧ f i < 3) (hc : ∀ s, 0 ≤ s → s < 3 → unC f u s ≤ ct s) (ht : 0 ≤ t ∧ t < 3) : (0 ≤ min (u + 1) 40 ∧ min (u + 1) 40 ≤ 40) ∧ (∀ i, 0 ≤ i → i < min (u + 1) 40 → 0 ≤ undoA f u t i ∧ undoA f u t i < 3) ∧ ∀ s, 0 ≤ s → s < 3 → unC (undoA f u t) (min (u + 1) 40) s ≤ up1 ct t (ct t + 1) s := by
  have hup : ∀ s, 0 ≤ s → s < 3 → unC f u s + (if t = s then 1 else 0) ≤ up1 ct t (ct t + 1) s := fun s s1 s2 => by
    have := hc s s1 s2
    by_cases w : t = s
    · rw [if_pos w, ← w, up1_s]; rw [← w] at this; omega
    · rw [if_neg w, up1_n (Ne.symm w)]; omega
  by_cases w : u < 40
  · have e1 : min (u + 1) 40 = u + 1 := by omega
    have e2 : undoA f u t = up1 f u t := if_pos w
    rw [e1, e2]
    refine ⟨by omega, fun i i1 i2 => ?_, fun s s1 s2 => ?_⟩
    · by_cases wi : i = u
      · rw [wi, up1_s]; exact ht
      · rw [up1_n wi]; exact hf i i1 (by omega)
    · rw [unC_s hu.1, up1_s, unC_cg (g := f) (fun i i1 i2 => up1_n (by omega))]
      exact hup s s1 s2
  · have hu40 : u = 40 := by omega
    have e1 : min (u + 1) 40 = 39 + 1 := by omega
    have e2 : undoA f u t = up1 (cpy f f 1 0 39) 39 t := if_neg w
    have hcp : ∀ i, 0 ≤ i → i < 39 → cpy f f 1 0 39 i = f (i + 1) := fun i i1 i2 => by
      unfold cpy
      rw [if_pos (by omega), show 1 + (i - 0) = i + 1 by omega]
    rw [e1, e2]
    refine ⟨by omega, fun i i1 i2 => ?_, fun s s1 s2 => ?_⟩
    · by_cases wi : i = 39
      · rw [wi, up1_s]; exact ht
      · rw [up1_n wi, hcp i i1 (by omega)]; exact hf (i + 1) (by omega) (by omega)
    · rw [unC_s (by decide), up1_s, unC_cg (g := fun i => f (i + 1)) (fun i i1 i2 => by rw [up1_n (by omega)]; exact hcp i i1 i2)]
      have h1 := hup s s1 s2
      have h2 : unC (fun i => f (i + 1)) 39 s ≤ unC f u s := by
        have h3 := sumN_shift (fun i => if f i = s then 1 else 0) 39
        have h4 : 0 ≤ (if f 0 = s then (1 : Int) else 0) := by split <;> decide
        rw [hu40]
        show sumN (fun i => if f (i + 1) = s then 1 else 0) 39 ≤ sumN (fun i => if f i = s then 1 else 0) (39 + 1)
        omega
      omega
theorem un_pop {f ct : Int → Int} {u : Int} (hu : 0 < u ∧ u ≤ 40) (hf : ∀ i, 0 ≤ i → i < u → 0 ≤ f i ∧ f i < 3) (hc : ∀ s, 0 ≤ s → s < 3 → unC f u s ≤ ct s) : 1 ≤ ct (f (u - 1)) ∧ ∀ s, 0 ≤ s → s < 3 → unC f (u - 1) s ≤ up1 ct (f (u - 1)) (ct (f (u - 1)) - 1) s := by
  have key : ∀ s, unC f u s = unC f (u - 1) s + (if f (u - 1) = s then 1 else 0) := fun s => by
    have := unC_s (f := f) (t := s) (u := u - 1) (by omega)
    rw [show u - 1 + 1 = u by omega] at this
    exact this
  have hT := hf (u - 1) (by omega) (by omega)
  refine ⟨?_, fun s s1 s2 => ?_⟩
  · have h1 := hc (f (u - 1)) hT.1 hT.2
    have h2 := key (f (u - 1))
    rw [if_pos rfl] at h2
    have := unC_nn (f := f) (u := u - 1) (t := f (u - 1))
    omega
  · have h1 := hc s s1 s2
    have h2 := key s
    by_cases w : f (u - 1) = s
    · rw [if_pos w] at h2
      rw [w, up1_s]; omega
    · rw [if_neg w] at h2
      rw [up1_n (Ne.symm w)]; omega
theorem v_board {μ μ1 μ2 : ot_M} {r1 r2 : Int} {v : Int} (h : rel μ)  (hc : (((2 ≤ v ∧ v ≤ 8) ∧ r1 = 1 ∧ ∃ f z, gChd v 0 ((boardM μ v) 2) ((boardM μ v) 3) f z ∧ μ1 = ot_up (ot_uc (ot_uc (ot_uc (ot_uc (boardM μ v) 38 f) 39 z) 34 (wr 64 (μ 34) (dk ((boardM μ v) 1 11) ((boardM μ v) 2) ((boardM μ v) 3) ((boardM μ v) 8) ((boardM μ v) 7) ((boardM μ v) 6)))) 35 (wr 276 (μ 35) (usC ((boardM μ v) 8) ((boardM μ v) 7)))) 0 14 0) ∨ (¬ (2 ≤ v ∧ v ≤ 8) ∧ r1 = 0 ∧ μ1 = μ))) (hq : (((2 ≤ v ∧ v ≤ 8) ∧ r2 = 1 ∧ μ2 = boardQ μ1 v) ∨ (¬ (2 ≤ v ∧ v ≤ 8) ∧ r2 = 0 ∧ μ2 = μ1))) : r1 = r2 ∧ rel μ2 := by
  rcases hc with ⟨cC, rC, f, z, hch, eC⟩ | ⟨cC, rC, eC⟩
  · have b11 : boardM μ v 1 11 = v := (boardM_at μ v).1
    have b2 : boardM μ v 2 = μ 2 := boardM_o (by decide)
    have b3 : boardM μ v 3 = μ 3 := boardM_o (by decide)
    have b7 : boardM μ v 7 = μ 7 := boardM_o (by decide)
    have b8 : boardM μ v 8 = wr 3 (μ 8) (fun _ => 0) := by unfold boardM; funext i; simp [ot_uc]
    have b6 : boardM μ v 6 = wr 3 (μ 6) (fun t => t + 1) := by unfold boardM; funext i; simp [ot_uc]
    rw [b2, b3] at hch
    rw [b11, b2, b3, b8, b7, b6] at eC
    have hf : frQ μ μ1 := by
      rw [eC]
      (repeat (first | exact (fun k a b => boardM_o (by omega)) | refine fq_uc ?_ (by omega) | refine fq_up ?_ (by omega)))
    obtain ⟨⟨x0, x1, x2, x11, x23, x14, x17, x35, x36, x46⟩, ⟨y61, y62, y66, y67, y63, y65, y64, y69, y70, y68, y72, y71⟩, z74, z75, z76, z77, z78⟩ := crQ h hf
    rcases hq with ⟨cQ, rQ, eQ⟩ | ⟨cQ, rQ, eQ⟩
    · have hOk := h.1
      obtain ⟨s0, s1, s2, s3, s4, s5, s6, s7, s8, s9⟩ := h.2.2.2.2.2.2.1
      obtain ⟨a1, a2, a3, a4, a5, a6, a7, a8, a9, a10, a11, a12⟩ := h.2.2.2.2.2.2.2.1
      have a4k : ∀ k, μ 67 k + 1 = μ 5 k := fun k => congrFun a4 k
      have a10k : ∀ k, μ 68 k - 1 = μ 11 k := fun k => congrFun a10 k
      have eM := eQ
      rw [eC] at eM
      have e1 : μ2 1 11 = v := (by rw [eM]; first | (simp [boardQ, boardM, ot_up, ot_uc, up1]; done) | (funext i; simp [boardQ, boardM, ot_up, ot_uc, up1]; done))
      have e2 : μ2 1 12 = 0 := (by rw [eM]; first | (simp [boardQ, boardM, ot_up, ot_uc, up1]; done) | (funext i; simp [boardQ, boardM, ot_up, ot_uc, up1]; done))
      have e3 : μ2 1 13 = 0 := (by rw [eM]; first | (simp [boardQ, boardM, ot_up, ot_uc, up1]; done) | (funext i; simp [boardQ, boardM, ot_up, ot_uc, up1]; done))
      have c2 : μ2 2 = μ 2 := (by rw [eM]; first | (simp [boardQ, boardM, ot_up, ot_uc, up1]; done) | (funext i; simp [boardQ, boardM, ot_up, ot_uc, up1]; done))
      have c3 : μ2 3 = μ 3 := (by rw [eM]; first | (simp [boardQ, boardM, ot_up, ot_uc, up1]; done) | (funext i; simp [boardQ, boardM, ot_up, ot_uc, up1]; done))
      have c7 : μ2 7 = μ 7 := (by rw [eM]; first | (simp [boardQ, boardM, ot_up, ot_uc, up1]; done) | (funext i; simp [boardQ, boardM, ot_up, ot_uc, up1]; done))
      have c8 : μ2 8 = wr 3 (μ 8) (fun _ => 0) := (by rw [eM]; first | (simp [boardQ, boardM, ot_up, ot_uc, up1]; done) | (funext i; simp [boardQ, boardM, ot_up, ot_uc, up1]; done))
      have c6 : μ2 6 = wr 3 (μ 6) (fun t => t + 1) := (by rw [eM]; first | (simp [boardQ, boardM, ot_up, ot_uc, up1]; done) | (funext i; simp [boardQ, boardM, ot_up, ot_uc, up1]; done))
      have c4 : μ2 4 = wr 256 (μ 4) (fun _ => 0) := (by rw [eM]; first | (simp [boardQ, boardM, ot_up, ot_uc, up1]; done) | (funext i; simp [boardQ, boardM, ot_up, ot_uc, up1]; done))
      have c5 : μ2 5 = wr 64 (μ 5) (fun _ => 1) := (by rw [eM]; first | (simp [boardQ, boardM, ot_up, ot_uc, up1]; done) | (funext i; simp [boardQ, boardM, ot_up, ot_uc, up1]; done))
      have c11 : μ2 11 = wr 64 (μ 11) (fun _ => -1) := (by rw [eM]; first | (simp [boardQ, boardM, ot_up, ot_uc, up1]; done) | (funext i; simp [boardQ, boardM, ot_up, ot_uc, up1]; done))
      refine ⟨by rw [rC, rQ], ⟨?_, ?_, ?_, ?_, (rTp_c h.2.2.2.2.1 (by rw [eM]; first | (simp [boardQ, boardM, ot_up, ot_uc, up1]; done) | (funext i; simp [boardQ, boardM, ot_up, ot_uc, up1]; done)) (by rw [eM]; first | (simp [boardQ, boardM, ot_up, ot_uc, up1]; done) | (funext i; simp [boardQ, boardM, ot_up, ot_uc, up1]; done))), ?_, (by unfold rSc; rw [eM]; simp [boardQ, boardM, ot_up, ot_uc, up1, s0, s1, s2, s3, s4, s5, s6, s7, s8, s9]), (by unfold rAr; rw [eM]; refine ⟨?_, ?_, ?_, ?_, ?_, ?_, ?_, ?_, ?_, ?_, ?_, ?_⟩ <;> funext k <;> first | (simp [boardQ, boardM, ot_up, ot_uc, up1, a1, a2, a3, a5, a6, a7, a8, a9, a11, a12]; done) | (simp [boardQ, boardM, ot_up, ot_uc, wr, a1, a2, a3, a5, a6, a7, a8, a9, a11, a12]; done) | (by_cases w : 0 ≤ k ∧ k < 64 <;> simp [boardQ, boardM, ot_up, ot_uc, wr, w, a4k]; done) | (by_cases w : 0 ≤ k ∧ k < 64 <;> simp [boardQ, boardM, ot_up, ot_uc, wr, w, a10k]; done)), (rIm_c h.2.2.2.2.2.2.2.2 (by rw [eM]; first | (simp [boardQ, boardM, ot_up, ot_uc, up1]; done) | (funext i; simp [boardQ, boardM, ot_up, ot_uc, up1]; done)) (by rw [eM]; first | (simp [boardQ, boardM, ot_up, ot_uc, up1]; done) | (funext i; simp [boardQ, boardM, ot_up, ot_uc, up1]; done)) (by rw [eM]; first | (simp [boardQ, boardM, ot_up, ot_uc, up1]; done) | (funext i; simp [boardQ, boardM, ot_up, ot_uc, up1]; done)) (by rw [eM]; first | (simp [boardQ, boardM, ot_up, ot_uc, up1]; done) | (funext i; simp [boardQ, boardM, ot_up, ot_uc, up1]; done)) (by rw [eM]; first | (simp [boardQ, boardM, ot_up, ot_uc, up1]; done) | (funext i; simp [boardQ, boardM, ot_up, ot_uc, up1]; done)) (by rw [eM]; first | (simp [boardQ, boardM, ot_up, ot_uc, up1]; done) | (funext i; simp [boardQ, boardM, ot_up, ot_uc, up1]; done)) (by rw [eM]; first | (simp [boardQ, boardM, ot_up, ot_uc, up1]; done) | (funext i; simp [boardQ, boardM, ot_up, ot_uc, up1]; done)) (by rw [eM]; first | (simp [boardQ, boardM, ot_up, ot_uc, up1]; done) | (funext i; simp [boardQ, boardM, ot_up, ot_uc, up1]; done)) (by rw [eM]; first | (simp [boardQ, boardM, ot_up, ot_uc, up1]; done) | (funext i; simp [boardQ, boardM, ot_up, ot_uc, up1]; done)) (by rw [eM]; first | (simp [boardQ, boardM, ot_up, ot_uc, up1]; done) | (funext i; simp [boardQ, boardM, ot_up, ot_uc, up1]; done)) (by rw [eM]; first | (simp [boardQ, boardM, ot_up, ot_uc, up1]; done) | (funext i; simp [boardQ, boardM, ot_up, ot_uc, up1]; done)) (by rw [eM]; first | (simp [boardQ, boardM, ot_up, ot_uc, up1]; done) | (funext i; simp [boardQ, boardM, ot_up, ot_uc, up1]; done)) (by rw [eM]; first | (simp [boardQ, boardM, ot_up, ot_uc, up1]; done) | (funext i; simp [boardQ, boardM, ot_up, ot_uc, up1]; done)) (by rw [eM]; first | (simp [boardQ, boardM, ot_up, ot_uc, up1]; done) | (funext i; simp [boardQ, boardM, ot_up, ot_uc, up1]; done)) (by rw [eM]; first | (simp [boardQ, boardM, ot_up, ot_uc, up1]; done) | (funext i; simp [boardQ, boardM, ot_up, ot_uc, up1]; done)) (by rw [eM]; first | (simp [boardQ, boardM, ot_up, ot_uc, up1]; done) | (funext i; simp [boardQ, boardM, ot_up, ot_uc, up1]; done)) (by rw [eM]; first | (simp [boardQ, boardM, ot_up, ot_uc, up1]; done) | (funext i; simp [boardQ, boardM, ot_up, ot_uc, up1]; done)) (by rw [eM]; first | (simp [boardQ, boardM, ot_up, ot_uc, up1]; done) | (funext i; simp [boardQ, boardM, ot_up, ot_uc, up1]; done)) (by rw [eM]; first | (simp [boardQ, boardM, ot_up, ot_uc, up1]; done) | (funext i; simp [boardQ, boardM, ot_up, ot_uc, up1]; done)))⟩⟩
      · unfold rOk
        rw [e1, e2, e3, c2, c3, c4, c5, c6, c7, c8, c11]
        refine ⟨⟨cC, by omega, fun i i1 i2 => by omega, fun i j i1 i2 => by omega⟩, fun t t1 t2 => ?_, fun t t1 t2 => ?_, fun k k1 k2 => ?_, fun p k p1 p2 k1 k2 => ?_, ⟨⟨by omega, by omega⟩, (fun l hl => by omega), (fun l hl => absurd hl (by simp)), fun l k _ hk => absurd hk (by simp)⟩, (fun l hl => by omega), fun k k1 k2 => ?_⟩
        · rw [wr_in ⟨t1, t2⟩]
          exact ⟨by omega, fun i i1 i2 => by omega, fun i i1 i2 => by omega⟩
        · rw [wr_in ⟨t1, t2⟩]; omega
        · rw [wr_in ⟨k1, k2⟩]; omega
        · rw [wr_in ⟨by omega, by omega⟩]
          exact ⟨by omega, fun _ => rfl⟩
        · rw [wr_in ⟨k1, k2⟩]; omega
      · unfold rCh
        rw [e1, e2, c2, c3, show μ2 38 = f from (by rw [eM]; first | (simp [boardQ, boardM, ot_up, ot_uc, up1]; done) | (funext i; simp [boardQ, boardM, ot_up, ot_uc, up1]; done)), show μ2 39 = z from (by rw [eM]; first | (simp [boardQ, boardM, ot_up, ot_uc, up1]; done) | (funext i; simp [boardQ, boardM, ot_up, ot_uc, up1]; done))]
        exact hch
      · unfold rCl
        rw [e1, c2, c3, c8, c7, c6, show μ2 34 = wr 64 (μ 34) (dk v (μ 2) (μ 3) (wr 3 (μ 8) (fun _ => 0)) (μ 7) (wr 3 (μ 6) (fun t => t + 1))) from (by rw [eM]; funext i; simp [boardQ, ot_up, ot_uc]), show μ2 35 = wr 276 (μ 35) (usC (wr 3 (μ 8) (fun _ => 0)) (μ 7)) from (by rw [eM]; funext i; simp [boardQ, ot_up, ot_uc])]
        exact clo_wr
      · exact rUn_0 (by rw [eM]; first | (simp [boardQ, boardM, ot_up, ot_uc, up1]; done) | (funext i; simp [boardQ, boardM, ot_up, ot_uc, up1]; done)) (fun t t1 t2 => by rw [c8, wr_in ⟨t1, t2⟩]; omega)
      · have hL := h.2.2.2.2.2.1
        refine ⟨?_, ?_, ?_, ?_, ?_⟩
        · rw [show μ2 12 4 = 0 from (by rw [eM]; first | (simp [boardQ, boardM, ot_up, ot_uc, up1]; done) | (funext i; simp [boardQ, boardM, ot_up, ot_uc, up1]; done))]
          exact ⟨by omega, fun l l1 l2 => by omega⟩
        · rw [show μ2 15 = μ 15 from (by rw [eM]; first | (simp [boardQ, boardM, ot_up, ot_uc, up1]; done) | (funext i; simp [boardQ, boardM, ot_up, ot_uc, up1]; done))]; exact hL.2.1
        · unfold b53
          rw [show μ2 53 = μ 53 from (by rw [eM]; first | (simp [boardQ, boardM, ot_up, ot_uc, up1]; done) | (funext i; simp [boardQ, boardM, ot_up, ot_uc, up1]; done))]; exact hL.2.2.1
        · rw [show μ2 60 21 = μ 60 21 from (by rw [eM]; first | (simp [boardQ, boardM, ot_up, ot_uc, up1]; done) | (funext i; simp [boardQ, boardM, ot_up, ot_uc, up1]; done))]; exact hL.2.2.2.1
        · rw [show μ2 73 = μ 73 from (by rw [eM]; first | (simp [boardQ, boardM, ot_up, ot_uc, up1]; done) | (funext i; simp [boardQ, boardM, ot_up, ot_uc, up1]; done))]; exact hL.2.2.2.2
    · exact absurd cC cQ
  · have hf : frQ μ μ1 := by
      rw [eC]
      (repeat (first | exact fq_rfl | refine fq_uc ?_ (by omega) | refine fq_up ?_ (by omega)))
    obtain ⟨⟨x0, x1, x2, x11, x23, x14, x17, x35, x36, x46⟩, ⟨y61, y62, y66, y67, y63, y65, y64, y69, y70, y68, y72, y71⟩, z74, z75, z76, z77, z78⟩ := crQ h hf
    rcases hq with ⟨cQ, rQ, eQ⟩ | ⟨cQ, rQ, eQ⟩
    · exact absurd cQ cC
    · rw [rC, rQ]; refine ⟨rfl, ?_⟩; rw [eQ, eC]; exact h
theorem v_rub {μ μ1 μ2 : ot_M} {r1 r2 : Int} {t n : Int} (h : rel μ)  (hc : (((0 ≤ t ∧ t < 3 ∧ 0 ≤ n ∧ n ≤ μ 8 t) ∧ r1 = μ 8 t - n ∧ ∃ f z D U, gChd (μ 1 11) (μ 1 12) (μ 2) (μ 3) f z ∧ gClo (μ 1 11) (μ 2) (μ 3) (up1 (μ 8) t (μ 8 t - n)) (μ 7) (μ 6) D U ∧ μ1 = ot_up (ot_uc (ot_uc (ot_uc (ot_uc (ot_uc μ 38 f) 39 z) 34 D) 35 U) 8 (up1 (μ 8) t (μ 8 t - n))) 0 14 0) ∨ (¬ (0 ≤ t ∧ t < 3 ∧ 0 ≤ n ∧ n ≤ μ 8 t) ∧ r1 = -1 ∧ μ1 = μ))) (hq : (((0 ≤ t ∧ t < 3 ∧ 0 ≤ n ∧ n ≤ μ1 64 t) ∧ r2 = μ1 64 t - n ∧ μ2 = ot_up (ot_up μ1 64 t (μ1 64 t - n)) 60 14 0) ∨ (¬ (0 ≤ t ∧ t < 3 ∧ 0 ≤ n ∧ n ≤ μ1 64 t) ∧ r2 = -1 ∧ μ2 = μ1))) : r1 = r2 ∧ rel μ2 := by
  rcases hc with ⟨cC, rC, f, z, D, U, hch, hcl, eC⟩ | ⟨cC, rC, eC⟩
  · have hf : frQ μ μ1 := by
      rw [eC]
      (repeat (first | exact fq_rfl | refine fq_uc ?_ (by omega) | refine fq_up ?_ (by omega)))
    obtain ⟨⟨x0, x1, x2, x11, x23, x14, x17, x35, x36, x46⟩, ⟨y61, y62, y66, y67, y63, y65, y64, y69, y70, y68, y72, y71⟩, z74, z75, z76, z77, z78⟩ := crQ h hf
    rw [y64] at hq
    rcases hq with ⟨cQ, rQ, eQ⟩ | ⟨cQ, rQ, eQ⟩
    · have hOk := h.1
      obtain ⟨s0, s1, s2, s3, s4, s5, s6, s7, s8, s9⟩ := h.2.2.2.2.2.2.1
      obtain ⟨a1, a2, a3, a4, a5, a6, a7, a8, a9, a10, a11, a12⟩ := h.2.2.2.2.2.2.2.1
      have a4k : ∀ k, μ 67 k + 1 = μ 5 k := fun k => congrFun a4 k
      have a10k : ∀ k, μ 68 k - 1 = μ 11 k := fun k => congrFun a10 k
      have eM : μ2 = ot_up (ot_up (ot_up (ot_uc (ot_uc (ot_uc (ot_uc (ot_uc μ 38 f) 39 z) 34 D) 35 U) 8 (up1 (μ 8) t (μ 8 t - n))) 0 14 0) 64 t (μ 8 t - n)) 60 14 0 := by rw [eQ, eC]
      have e8 : μ2 8 = up1 (μ 8) t (μ 8 t - n) := (by rw [eM]; first | (simp [ot_up, ot_uc, up1]; done) | (funext i; simp [ot_up, ot_uc, up1]; done))
      have hW := gWnd_pop (t := t) (c := μ 8 t - n) hOk.2.1 (by omega)
      refine ⟨by rw [rC, rQ], ⟨?_, ?_, ?_, ?_, (rTp_c h.2.2.2.2.1 (by rw [eM]; first | (simp [ot_up, ot_uc, up1]; done) | (funext i; simp [ot_up, ot_uc, up1]; done)) (by rw [eM]; first | (simp [ot_up, ot_uc, up1]; done) | (funext i; simp [ot_up, ot_uc, up1]; done))), (rLw_c h.2.2.2.2.2.1 (by rw [eM]; first | (simp [ot_up, ot_uc, up1]; done) | (funext i; simp [ot_up, ot_uc, up1]; done)) (by rw [eM]; first | (simp [ot_up, ot_uc, up1]; done) | (funext i; simp [ot_up, ot_uc, up1]; done)) (by rw [eM]; first | (simp [ot_up, ot_uc, up1]; done) | (funext i; simp [ot_up, ot_uc, up1]; done)) (by rw [eM]; first | (simp [ot_up, ot_uc, up1]; done) | (funext i; simp [ot_up, ot_uc, up1]; done)) (by rw [eM]; first | (simp [ot_up, ot_uc, up1]; done) | (funext i; simp [ot_up, ot_uc, up1]; done)) (by rw [eM]; first | (simp [ot_up, ot_uc, up1]; done) | (funext i; simp [ot_up, ot_uc, up1]; done)) (by rw [eM]; first | (simp [ot_up, ot_uc, up1]; done) | (funext i; simp [ot_up, ot_uc, up1]; done)) (by rw [eM]; first | (simp [ot_up, ot_uc, up1]; done) | (funext i; simp [ot_up, ot_uc, up1]; done)) (by rw [eM]; first | (simp [ot_up, ot_uc, up1]; done) | (funext i; simp [ot_up, ot_uc, up1]; done)) (by rw [eM]; first | (simp [ot_up, ot_uc, up1]; done) | (funext i; simp [ot_up, ot_uc, up1]; done)) (by rw [eM]; first | (simp [ot_up, ot_uc, up1]; done) | (funext i; simp [ot_up, ot_uc, up1]; done)) (by rw [eM]; first | (simp [ot_up, ot_uc, up1]; done) | (funext i; simp [ot_up, ot_uc, up1]; done))), (by unfold rSc; rw [eM]; simp [ot_up, ot_uc, up1, s0, s1, s2, s3, s4, s5, s6, s7, s8, s9]), (by unfold rAr; rw [eM]; refine ⟨?_, ?_, ?_, ?_, ?_, ?_, ?_, ?_, ?_, ?_, ?_, ?_⟩ <;> funext k <;> first | (simp [ot_up, ot_uc, up1, a1, a2, a3, a5, a6, a7, a8, a9, a11, a12]; done) | (simp [ot_up, ot_uc, up1, a4k]; done) | (simp [ot_up, ot_uc, up1, a10k]; done) | (simp only [ot_up, ot_uc, up1]; simp; split <;> simp [a4k, a10k])), (rIm_c h.2.2.2.2.2.2.2.2 (by rw [eM]; first | (simp [ot_up, ot_uc, up1]; done) | (funext i; simp [ot_up, ot_uc, up1]; done)) (by rw [eM]; first | (simp [ot_up, ot_uc, up1]; done) | (funext i; simp [ot_up, ot_uc, up1]; done)) (by rw [eM]; first | (simp [ot_up, ot_uc, up1]; done) | (funext i; simp [ot_up, ot_uc, up1]; done)) (by rw [eM]; first | (simp [ot_up, ot_uc, up1]; done) | (funext i; simp [ot_up, ot_uc, up1]; done)) (by rw [eM]; first | (simp [ot_up, ot_uc, up1]; done) | (funext i; simp [ot_up, ot_uc, up1]; done)) (by rw [eM]; first | (simp [ot_up, ot_uc, up1]; done) | (funext i; simp [ot_up, ot_uc, up1]; done)) (by rw [eM]; first | (simp [ot_up, ot_uc, up1]; done) | (funext i; simp [ot_up, ot_uc, up1]; done)) (by rw [eM]; first | (simp [ot_up, ot_uc, up1]; done) | (funext i; simp [ot_up, ot_uc, up1]; done)) (by rw [eM]; first | (simp [ot_up, ot_uc, up1]; done) | (funext i; simp [ot_up, ot_uc, up1]; done)) (by rw [eM]; first | (simp [ot_up, ot_uc, up1]; done) | (funext i; simp [ot_up, ot_uc, up1]; done)) (by rw [eM]; first | (simp [ot_up, ot_uc, up1]; done) | (funext i; simp [ot_up, ot_uc, up1]; done)) (by rw [eM]; first | (simp [ot_up, ot_uc, up1]; done) | (funext i; simp [ot_up, ot_uc, up1]; done)) (by rw [eM]; first | (simp [ot_up, ot_uc, up1]; done) | (funext i; simp [ot_up, ot_uc, up1]; done)) (by rw [eM]; first | (simp [ot_up, ot_uc, up1]; done) | (funext i; simp [ot_up, ot_uc, up1]; done)) (by rw [eM]; first | (simp [ot_up, ot_uc, up1]; done) | (funext i; simp [ot_up, ot_uc, up1]; done)) (by rw [eM]; first | (simp [ot_up, ot_uc, up1]; done) | (funext i; simp [ot_up, ot_uc, up1]; done)) (by rw [eM]; first | (simp [ot_up, ot_uc, up1]; done) | (funext i; simp [ot_up, ot_uc, up1]; done)) (by rw [eM]; first | (simp [ot_up, ot_uc, up1]; done) | (funext i; simp [ot_up, ot_uc, up1]; done)) (by rw [eM]; first | (simp [ot_up, ot_uc, up1]; done) | (funext i; simp [ot_up, ot_uc, up1]; done)))⟩⟩
      · have ho : okS (μ 1 11) (μ 1 12) (μ 1 13) (μ 2) (μ 3) (μ 4) (μ 5) (μ 6) (μ 7) (μ2 8) (μ 9) (μ 10) (μ 11) := by
          rw [e8]
          exact ⟨hOk.1, hW, hOk.2.2.1, hOk.2.2.2.1, hOk.2.2.2.2.1, hOk.2.2.2.2.2.1, hOk.2.2.2.2.2.2.1, hOk.2.2.2.2.2.2.2⟩
        unfold rOk
        rw [show μ2 1 11 = μ 1 11 from (by rw [eM]; first | (simp [ot_up, ot_uc, up1]; done) | (funext i; simp [ot_up, ot_uc, up1]; done)), show μ2 1 12 = μ 1 12 from (by rw [eM]; first | (simp [ot_up, ot_uc, up1]; done) | (funext i; simp [ot_up, ot_uc, up1]; done)), show μ2 1 13 = μ 1 13 from (by rw [eM]; first | (simp [ot_up, ot_uc, up1]; done) | (funext i; simp [ot_up, ot_uc, up1]; done)), show μ2 2 = μ 2 from (by rw [eM]; first | (simp [ot_up, ot_uc, up1]; done) | (funext i; simp [ot_up, ot_uc, up1]; done)), show μ2 3 = μ 3 from (by rw [eM]; first | (simp [ot_up, ot_uc, up1]; done) | (funext i; simp [ot_up, ot_uc, up1]; done)), show μ2 4 = μ 4 from (by rw [eM]; first | (simp [ot_up, ot_uc, up1]; done) | (funext i; simp [ot_up, ot_uc, up1]; done)), show μ2 5 = μ 5 from (by rw [eM]; first | (simp [ot_up, ot_uc, up1]; done) | (funext i; simp [ot_up, ot_uc, up1]; done)), show μ2 6 = μ 6 from (by rw [eM]; first | (simp [ot_up, ot_uc, up1]; done) | (funext i; simp [ot_up, ot_uc, up1]; done)), show μ2 7 = μ 7 from (by rw [eM]; first | (simp [ot_up, ot_uc, up1]; done) | (funext i; simp [ot_up, ot_uc, up1]; done)), show μ2 9 = μ 9 from (by rw [eM]; first | (simp [ot_up, ot_uc, up1]; done) | (funext i; simp [ot_up, ot_uc, up1]; done)), show μ2 10 = μ 10 from (by rw [eM]; first | (simp [ot_up, ot_uc, up1]; done) | (funext i; simp [ot_up, ot_uc, up1]; done)), show μ2 11 = μ 11 from (by rw [eM]; first | (simp [ot_up, ot_uc, up1]; done) | (funext i; simp [ot_up, ot_uc, up1]; done))]
        exact ho
      · unfold rCh
        rw [show μ2 1 11 = μ 1 11 from (by rw [eM]; first | (simp [ot_up, ot_uc, up1]; done) | (funext i; simp [ot_up, ot_uc, up1]; done)), show μ2 1 12 = μ 1 12 from (by rw [eM]; first | (simp [ot_up, ot_uc, up1]; done) | (funext i; simp [ot_up, ot_uc, up1]; done)), show μ2 2 = μ 2 from (by rw [eM]; first | (simp [ot_up, ot_uc, up1]; done) | (funext i; simp [ot_up, ot_uc, up1]; done)), show μ2 3 = μ 3 from (by rw [eM]; first | (simp [ot_up, ot_uc, up1]; done) | (funext i; simp [ot_up, ot_uc, up1]; done)), show μ2 38 = f from (by rw [eM]; first | (simp [ot_up, ot_uc, up1]; done) | (funext i; simp [ot_up, ot_uc, up1]; done)), show μ2 39 = z from (by rw [eM]; first | (simp [ot_up, ot_uc, up1]; done) | (funext i; simp [ot_up, ot_uc, up1]; done))]
        exact hch
      · unfold rCl
        rw [show μ2 1 11 = μ 1 11 from (by rw [eM]; first | (simp [ot_up, ot_uc, up1]; done) | (funext i; simp [ot_up, ot_uc, up1]; done)), show μ2 2 = μ 2 from (by rw [eM]; first | (simp [ot_up, ot_uc, up1]; done) | (funext i; simp [ot_up, ot_uc, up1]; done)), show μ2 3 = μ 3 from (by rw [eM]; first | (simp [ot_up, ot_uc, up1]; done) | (funext i; simp [ot_up, ot_uc, up1]; done)), e8, show μ2 7 = μ 7 from (by rw [eM]; first | (simp [ot_up, ot_uc, up1]; done) | (funext i; simp [ot_up, ot_uc, up1]; done)), show μ2 6 = μ 6 from (by rw [eM]; first | (simp [ot_up, ot_uc, up1]; done) | (funext i; simp [ot_up, ot_uc, up1]; done)), show μ2 34 = D from (by rw [eM]; first | (simp [ot_up, ot_uc, up1]; done) | (funext i; simp [ot_up, ot_uc, up1]; done)), show μ2 35 = U from (by rw [eM]; first | (simp [ot_up, ot_uc, up1]; done) | (funext i; simp [ot_up, ot_uc, up1]; done))]
        exact hcl
      · exact rUn_0 (by rw [eM]; first | (simp [ot_up, ot_uc, up1]; done) | (funext i; simp [ot_up, ot_uc, up1]; done)) (fun s s1 s2 => by rw [e8]; exact (hW s s1 s2).1.1)
    · exact absurd cC cQ
  · have hf : frQ μ μ1 := by
      rw [eC]
      (repeat (first | exact fq_rfl | refine fq_uc ?_ (by omega) | refine fq_up ?_ (by omega)))
    obtain ⟨⟨x0, x1, x2, x11, x23, x14, x17, x35, x36, x46⟩, ⟨y61, y62, y66, y67, y63, y65, y64, y69, y70, y68, y72, y71⟩, z74, z75, z76, z77, z78⟩ := crQ h hf
    rw [y64] at hq
    rcases hq with ⟨cQ, rQ, eQ⟩ | ⟨cQ, rQ, eQ⟩
    · exact absurd cQ cC
    · rw [rC, rQ]; refine ⟨rfl, ?_⟩; rw [eQ, eC]; exact h
theorem v_undo {μ μ1 μ2 : ot_M} {r1 r2 : Int}  (h : rel μ)  (hc : ((0 < μ 0 14 ∧ r1 = 1 ∧ ∃ f z D U, gChd (μ 1 11) (μ 1 12) (μ 2) (μ 3) f z ∧ gClo (μ 1 11) (μ 2) (μ 3) (up1 (μ 8) (μ 59 (μ 0 14 - 1)) (max (μ 8 (μ 59 (μ 0 14 - 1)) - 1) 0)) (μ 7) (μ 6) D U ∧ μ1 = ot_uc (ot_uc (ot_uc (ot_uc (ot_uc (ot_up μ 0 14 (μ 0 14 - 1)) 38 f) 39 z) 34 D) 35 U) 8 (up1 (μ 8) (μ 59 (μ 0 14 - 1)) (max (μ 8 (μ 59 (μ 0 14 - 1)) - 1) 0))) ∨ (μ 0 14 = 0 ∧ r1 = 0 ∧ μ1 = μ))) (hq : ((0 < μ1 60 14 ∧ r2 = 1 ∧ μ2 = ot_up (ot_up μ1 60 14 (μ1 60 14 - 1)) 64 (μ1 71 (μ1 60 14 - 1)) (μ1 64 (μ1 71 (μ1 60 14 - 1)) - 1)) ∨ (μ1 60 14 = 0 ∧ r2 = 0 ∧ μ2 = μ1))) : r1 = r2 ∧ rel μ2 := by
  rcases hc with ⟨cC, rC, f, z, D, U, hch, hcl, eC⟩ | ⟨cC, rC, eC⟩
  · have hf : frQ μ μ1 := by
      rw [eC]
      (repeat (first | exact fq_rfl | refine fq_uc ?_ (by omega) | refine fq_up ?_ (by omega)))
    obtain ⟨⟨x0, x1, x2, x11, x23, x14, x17, x35, x36, x46⟩, ⟨y61, y62, y66, y67, y63, y65, y64, y69, y70, y68, y72, y71⟩, z74, z75, z76, z77, z78⟩ := crQ h hf
    rw [x14, y71, y64] at hq
    rcases hq with ⟨cQ, rQ, eQ⟩ | ⟨cQ, rQ, eQ⟩
    · have hOk := h.1
      obtain ⟨s0, s1, s2, s3, s4, s5, s6, s7, s8, s9⟩ := h.2.2.2.2.2.2.1
      obtain ⟨a1, a2, a3, a4, a5, a6, a7, a8, a9, a10, a11, a12⟩ := h.2.2.2.2.2.2.2.1
      have a4k : ∀ k, μ 67 k + 1 = μ 5 k := fun k => congrFun a4 k
      have a10k : ∀ k, μ 68 k - 1 = μ 11 k := fun k => congrFun a10 k
      obtain ⟨u1, u2, u3⟩ := h.2.2.2.1
      have hpop := un_pop ⟨cC, u1.2⟩ u2 u3
      have hT := u2 (μ 0 14 - 1) (by omega) (by omega)
      rw [show max (μ 8 (μ 59 (μ 0 14 - 1)) - 1) 0 = μ 8 (μ 59 (μ 0 14 - 1)) - 1 by omega] at hcl eC
      obtain ⟨t, ht⟩ : ∃ t, t = μ 59 (μ 0 14 - 1) := ⟨_, rfl⟩
      rw [← ht] at hcl eC eQ hpop hT
      have eM : μ2 = ot_up (ot_up (ot_uc (ot_uc (ot_uc (ot_uc (ot_uc (ot_up μ 0 14 (μ 0 14 - 1)) 38 f) 39 z) 34 D) 35 U) 8 (up1 (μ 8) t (μ 8 t - 1))) 60 14 (μ 0 14 - 1)) 64 t (μ 8 t - 1) := by rw [eQ, eC]
      have e8 : μ2 8 = up1 (μ 8) t (μ 8 t - 1) := (by rw [eM]; first | (simp [ot_up, ot_uc, up1]; done) | (funext i; simp [ot_up, ot_uc, up1]; done))
      have hW := gWnd_pop (t := t) (c := μ 8 t - 1) hOk.2.1 (by omega)
      refine ⟨by rw [rC, rQ], ⟨?_, ?_, ?_, ?_, (rTp_c h.2.2.2.2.1 (by rw [eM]; first | (simp [ot_up, ot_uc, up1]; done) | (funext i; simp [ot_up, ot_uc, up1]; done)) (by rw [eM]; first | (simp [ot_up, ot_uc, up1]; done) | (funext i; simp [ot_up, ot_uc, up1]; done))), (rLw_c h.2.2.2.2.2.1 (by rw [eM]; first | (simp [ot_up, ot_uc, up1]; done) | (funext i; simp [ot_up, ot_uc, up1]; done)) (by rw [eM]; first | (simp [ot_up, ot_uc, up1]; done) | (funext i; simp [ot_up, ot_uc, up1]; done)) (by rw [eM]; first | (simp [ot_up, ot_uc, up1]; done) | (funext i; simp [ot_up, ot_uc, up1]; done)) (by rw [eM]; first | (simp [ot_up, ot_uc, up1]; done) | (funext i; simp [ot_up, ot_uc, up1]; done)) (by rw [eM]; first | (simp [ot_up, ot_uc, up1]; done) | (funext i; simp [ot_up, ot_uc, up1]; done)) (by rw [eM]; first | (simp [ot_up, ot_uc, up1]; done) | (funext i; simp [ot_up, ot_uc, up1]; done)) (by rw [eM]; first | (simp [ot_up, ot_uc, up1]; done) | (funext i; simp [ot_up, ot_uc, up1]; done)) (by rw [eM]; first | (simp [ot_up, ot_uc, up1]; done) | (funext i; simp [ot_up, ot_uc, up1]; done)) (by rw [eM]; first | (simp [ot_up, ot_uc, up1]; done) | (funext i; simp [ot_up, ot_uc, up1]; done)) (by rw [eM]; first | (simp [ot_up, ot_uc, up1]; done) | (funext i; simp [ot_up, ot_uc, up1]; done)) (by rw [eM]; first | (simp [ot_up, ot_uc, up1]; done) | (funext i; simp [ot_up, ot_uc, up1]; done)) (by rw [eM]; first | (simp [ot_up, ot_uc, up1]; done) | (funext i; simp [ot_up, ot_uc, up1]; done))), (by unfold rSc; rw [eM]; simp [ot_up, ot_uc, up1, s0, s1, s2, s3, s4, s5, s6, s7, s8, s9]), (by unfold rAr; rw [eM]; refine ⟨?_, ?_, ?_, ?_, ?_, ?_, ?_, ?_, ?_, ?_, ?_, ?_⟩ <;> funext k <;> first | (simp [ot_up, ot_uc, up1, a1, a2, a3, a5, a6, a7, a8, a9, a11, a12]; done) | (simp [ot_up, ot_uc, up1, a4k]; done) | (simp [ot_up, ot_uc, up1, a10k]; done) | (simp only [ot_up, ot_uc, up1]; simp; split <;> simp [a4k, a10k])), (rIm_c h.2.2.2.2.2.2.2.2 (by rw [eM]; first | (simp [ot_up, ot_uc, up1]; done) | (funext i; simp [ot_up, ot_uc, up1]; done)) (by rw [eM]; first | (simp [ot_up, ot_uc, up1]; done) | (funext i; simp [ot_up, ot_uc, up1]; done)) (by rw [eM]; first | (simp [ot_up, ot_uc, up1]; done) | (funext i; simp [ot_up, ot_uc, up1]; done)) (by rw [eM]; first | (simp [ot_up, ot_uc, up1]; done) | (funext i; simp [ot_up, ot_uc, up1]; done)) (by rw [eM]; first | (simp [ot_up, ot_uc, up1]; done) | (funext i; simp [ot_up, ot_uc, up1]; done)) (by rw [eM]; first | (simp [ot_up, ot_uc, up1]; done) | (funext i; simp [ot_up, ot_uc, up1]; done)) (by rw [eM]; first | (simp [ot_up, ot_uc, up1]; done) | (funext i; simp [ot_up, ot_uc, up1]; done)) (by rw [eM]; first | (simp [ot_up, ot_uc, up1]; done) | (funext i; simp [ot_up, ot_uc, up1]; done)) (by rw [eM]; first | (simp [ot_up, ot_uc, up1]; done) | (funext i; simp [ot_up, ot_uc, up1]; done)) (by rw [eM]; first | (simp [ot_up, ot_uc, up1]; done) | (funext i; simp [ot_up, ot_uc, up1]; done)) (by rw [eM]; first | (simp [ot_up, ot_uc, up1]; done) | (funext i; simp [ot_up, ot_uc, up1]; done)) (by rw [eM]; first | (simp [ot_up, ot_uc, up1]; done) | (funext i; simp [ot_up, ot_uc, up1]; done)) (by rw [eM]; first | (simp [ot_up, ot_uc, up1]; done) | (funext i; simp [ot_up, ot_uc, up1]; done)) (by rw [eM]; first | (simp [ot_up, ot_uc, up1]; done) | (funext i; simp [ot_up, ot_uc, up1]; done)) (by rw [eM]; first | (simp [ot_up, ot_uc, up1]; done) | (funext i; simp [ot_up, ot_uc, up1]; done)) (by rw [eM]; first | (simp [ot_up, ot_uc, up1]; done) | (funext i; simp [ot_up, ot_uc, up1]; done)) (by rw [eM]; first | (simp [ot_up, ot_uc, up1]; done) | (funext i; simp [ot_up, ot_uc, up1]; done)) (by rw [eM]; first | (simp [ot_up, ot_uc, up1]; done) | (funext i; simp [ot_up, ot_uc, up1]; done)) (by rw [eM]; first | (simp [ot_up, ot_uc, up1]; done) | (funext i; simp [ot_up, ot_uc, up1]; done)))⟩⟩
      · have ho : okS (μ 1 11) (μ 1 12) (μ 1 13) (μ 2) (μ 3) (μ 4) (μ 5) (μ 6) (μ 7) (μ2 8) (μ 9) (μ 10) (μ 11) := by
          rw [e8]
          exact ⟨hOk.1, hW, hOk.2.2.1, hOk.2.2.2.1, hOk.2.2.2.2.1, hOk.2.2.2.2.2.1, hOk.2.2.2.2.2.2.1, hOk.2.2.2.2.2.2.2⟩
        unfold rOk
        rw [show μ2 1 11 = μ 1 11 from (by rw [eM]; first | (simp [ot_up, ot_uc, up1]; done) | (funext i; simp [ot_up, ot_uc, up1]; done)), show μ2 1 12 = μ 1 12 from (by rw [eM]; first | (simp [ot_up, ot_uc, up1]; done) | (funext i; simp [ot_up, ot_uc, up1]; done)), show μ2 1 13 = μ 1 13 from (by rw [eM]; first | (simp [ot_up, ot_uc, up1]; done) | (funext i; simp [ot_up, ot_uc, up1]; done)), show μ2 2 = μ 2 from (by rw [eM]; first | (simp [ot_up, ot_uc, up1]; done) | (funext i; simp [ot_up, ot_uc, up1]; done)), show μ2 3 = μ 3 from (by rw [eM]; first | (simp [ot_up, ot_uc, up1]; done) | (funext i; simp [ot_up, ot_uc, up1]; done)), show μ2 4 = μ 4 from (by rw [eM]; first | (simp [ot_up, ot_uc, up1]; done) | (funext i; simp [ot_up, ot_uc, up1]; done)), show μ2 5 = μ 5 from (by rw [eM]; first | (simp [ot_up, ot_uc, up1]; done) | (funext i; simp [ot_up, ot_uc, up1]; done)), show μ2 6 = μ 6 from (by rw [eM]; first | (simp [ot_up, ot_uc, up1]; done) | (funext i; simp [ot_up, ot_uc, up1]; done)), show μ2 7 = μ 7 from (by rw [eM]; first | (simp [ot_up, ot_uc, up1]; done) | (funext i; simp [ot_up, ot_uc, up1]; done)), show μ2 9 = μ 9 from (by rw [eM]; first | (simp [ot_up, ot_uc, up1]; done) | (funext i; simp [ot_up, ot_uc, up1]; done)), show μ2 10 = μ 10 from (by rw [eM]; first | (simp [ot_up, ot_uc, up1]; done) | (funext i; simp [ot_up, ot_uc, up1]; done)), show μ2 11 = μ 11 from (by rw [eM]; first | (simp [ot_up, ot_uc, up1]; done) | (funext i; simp [ot_up, ot_uc, up1]; done))]
        exact ho
      · unfold rCh
        rw [show μ2 1 11 = μ 1 11 from (by rw [eM]; first | (simp [ot_up, ot_uc, up1]; done) | (funext i; simp [ot_up, ot_uc, up1]; done)), show μ2 1 12 = μ 1 12 from (by rw [eM]; first | (simp [ot_up, ot_uc, up1]; done) | (funext i; simp [ot_up, ot_uc, up1]; done)), show μ2 2 = μ 2 from (by rw [eM]; first | (simp [ot_up, ot_uc, up1]; done) | (funext i; simp [ot_up, ot_uc, up1]; done)), show μ2 3 = μ 3 from (by rw [eM]; first | (simp [ot_up, ot_uc, up1]; done) | (funext i; simp [ot_up, ot_uc, up1]; done)), show μ2 38 = f from (by rw [eM]; first | (simp [ot_up, ot_uc, up1]; done) | (funext i; simp [ot_up, ot_uc, up1]; done)), show μ2 39 = z from (by rw [eM]; first | (simp [ot_up, ot_uc, up1]; done) | (funext i; simp [ot_up, ot_uc, up1]; done))]
        exact hch
      · unfold rCl
        rw [show μ2 1 11 = μ 1 11 from (by rw [eM]; first | (simp [ot_up, ot_uc, up1]; done) | (funext i; simp [ot_up, ot_uc, up1]; done)), show μ2 2 = μ 2 from (by rw [eM]; first | (simp [ot_up, ot_uc, up1]; done) | (funext i; simp [ot_up, ot_uc, up1]; done)), show μ2 3 = μ 3 from (by rw [eM]; first | (simp [ot_up, ot_uc, up1]; done) | (funext i; simp [ot_up, ot_uc, up1]; done)), e8, show μ2 7 = μ 7 from (by rw [eM]; first | (simp [ot_up, ot_uc, up1]; done) | (funext i; simp [ot_up, ot_uc, up1]; done)), show μ2 6 = μ 6 from (by rw [eM]; first | (simp [ot_up, ot_uc, up1]; done) | (funext i; simp [ot_up, ot_uc, up1]; done)), show μ2 34 = D from (by rw [eM]; first | (simp [ot_up, ot_uc, up1]; done) | (funext i; simp [ot_up, ot_uc, up1]; done)), show μ2 35 = U from (by rw [eM]; first | (simp [ot_up, ot_uc, up1]; done) | (funext i; simp [ot_up, ot_uc, up1]; done))]
        exact hcl
      · unfold rUn
        rw [show μ2 0 14 = μ 0 14 - 1 from (by rw [eM]; first | (simp [ot_up, ot_uc, up1]; done) | (funext i; simp [ot_up, ot_uc, up1]; done)), show μ2 59 = μ 59 from (by rw [eM]; first | (simp [ot_up, ot_uc, up1]; done) | (funext i; simp [ot_up, ot_uc, up1]; done)), e8]
        exact ⟨by omega, fun i i1 i2 => u2 i i1 (by omega), hpop.2⟩
    · omega
  · have hf : frQ μ μ1 := by
      rw [eC]
      (repeat (first | exact fq_rfl | refine fq_uc ?_ (by omega) | refine fq_up ?_ (by omega)))
    obtain ⟨⟨x0, x1, x2, x11, x23, x14, x17, x35, x36, x46⟩, ⟨y61, y62, y66, y67, y63, y65, y64, y69, y70, y68, y72, y71⟩, z74, z75, z76, z77, z78⟩ := crQ h hf
    rw [x14, y71, y64] at hq
    rcases hq with ⟨cQ, rQ, eQ⟩ | ⟨cQ, rQ, eQ⟩
    · omega
    · rw [rC, rQ]; refine ⟨rfl, ?_⟩; rw [eQ, eC]; exact h

set_option maxRecDepth 100000 in
set_option maxHeartbeats 1000000 in
theorem la_wound {p : Program} {l : Launch} {e : Env} {s : State} {m : MethodId} {below : List Frame} {meth : Method} {c : Code} {g : ot_G} {b N cells slots ln : Nat} {xs : Nat → Int32} {Q : State → Prop} {ext : ot_L} {μ : ot_M} {i : Int} (h : lwX p s m meth c g b N xs) (hgz : ot_gz g) (hr : rel μ) (hc6 : cells ≤ 599000) (hs6 : slots ≤ 7000000) (hi : 0 ≤ i ∧ i + 6 ≤ (N : Int)) (K : ∀ μ2 : ot_M, rel μ2 → LW p l e s m below meth c g b Q cells slots (LL ln ext) μ2 1154 i []) : LW p l e s m below meth c g b Q cells slots (LL ln ext) μ 541 i [] := by
  have hOk := hr.1
  have hUn := hr.2.2.2.1
  have hTp := hr.2.2.2.2.1
  have hLw := hr.2.2.2.2.2.1
  refine lr_x h dL_law_541 ?_
  refine lr_s h (kk := 1) (by omega) dL_law_542 dL_law_543 dL_law_544 dL_law_545 dL_law_546 ?_
  refine lr_s h (kk := 2) (by omega) dL_law_547 dL_law_548 dL_law_549 dL_law_550 dL_law_551 ?_
  refine lr_call h mL_65 (c_wound l g ln ext μ (sv xs (i + 1)) (sv xs (i + 2)) (sv_r _ _) (sv_r _ _) (ok_ct hOk)) (k_0 _ _) ⟨_, rfl, rfl⟩ rfl rfl (Nat.le_of_ble_eq_true rfl) (by decide) (by omega) (by omega) dL_law_552 (fun z1 L1 μ1 hp => ?_)
  obtain ⟨rfl, hc⟩ := hp
  have hf := fr_wound hc
  have hQ := relQ_fr (relQ_of hr) hf
  have hK := hQ.2.1
  obtain ⟨⟨x0, x1, x2, x11, x23, x14, x17, x35, x36, x46⟩, ⟨y61, y62, y66, y67, y63, y65, y64, y69, y70, y68, y72, y71⟩, z74, z75, z76, z77, z78⟩ := crQ hr hf
  refine lr_m h dL_law_555 ?_
  refine lr_s h (kk := 1) (by omega) dL_law_556 dL_law_557 dL_law_558 dL_law_559 dL_law_560 ?_
  refine lr_s h (kk := 2) (by omega) dL_law_561 dL_law_562 dL_law_563 dL_law_564 dL_law_565 ?_
  refine lr_call h mL_68 (q_wound l g ln ext μ1 hQ.1 (sv xs (i + 1)) (sv xs (i + 2)) (sv_r _ _) (sv_r _ _) (ok_ct hK)) (k_60 _ _) ⟨_, rfl, rfl⟩ rfl rfl (Nat.le_of_ble_eq_true rfl) (by decide) (by omega) (by omega) dL_law_566 (fun z2 L2 μ2 hp => ?_)
  obtain ⟨rfl, hq⟩ := hp
  obtain ⟨e12, hr2⟩ := v_wound hr hc hq
  refine lr_eq h e12 dL_law_569 (by decide) ?_
  exact K μ2 hr2
set_option maxRecDepth 100000 in
set_option maxHeartbeats 1000000 in
theorem la_dark {p : Program} {l : Launch} {e : Env} {s : State} {m : MethodId} {below : List Frame} {meth : Method} {c : Code} {g : ot_G} {b N cells slots ln : Nat} {xs : Nat → Int32} {Q : State → Prop} {ext : ot_L} {μ : ot_M} {i : Int} (h : lwX p s m meth c g b N xs) (hgz : ot_gz g) (hr : rel μ) (hc6 : cells ≤ 599000) (hs6 : slots ≤ 7000000) (hi : 0 ≤ i ∧ i + 6 ≤ (N : Int)) (K : ∀ μ2 : ot_M, rel μ2 → LW p l e s m below meth c g b Q cells slots (LL ln ext) μ2 1154 i []) : LW p l e s m below meth c g b Q cells slots (LL ln ext) μ 574 i [] := by
  have hOk := hr.1
  have hUn := hr.2.2.2.1
  have hTp := hr.2.2.2.2.1
  have hLw := hr.2.2.2.2.2.1
  refine lr_x h dL_law_574 ?_
  refine lr_s h (kk := 1) (by omega) dL_law_575 dL_law_576 dL_law_577 dL_law_578 dL_law_579 ?_
  refine lr_s h (kk := 2) (by omega) dL_law_580 dL_law_581 dL_law_582 dL_law_583 dL_law_584 ?_
  refine lr_call h mL_69 (c_dark l g ln ext μ (sv xs (i + 1)) (sv xs (i + 2)) (sv_r _ _) (sv_r _ _) hOk.1.1) (k_0 _ _) ⟨_, rfl, rfl⟩ rfl rfl (Nat.le_of_ble_eq_true rfl) (by decide) (by omega) (by omega) dL_law_585 (fun z1 L1 μ1 hp => ?_)
  obtain ⟨rfl, hc⟩ := hp
  have hf := fr_dark hc
  have hQ := relQ_fr (relQ_of hr) hf
  have hK := hQ.2.1
  obtain ⟨⟨x0, x1, x2, x11, x23, x14, x17, x35, x36, x46⟩, ⟨y61, y62, y66, y67, y63, y65, y64, y69, y70, y68, y72, y71⟩, z74, z75, z76, z77, z78⟩ := crQ hr hf
  refine lr_m h dL_law_588 ?_
  refine lr_s h (kk := 1) (by omega) dL_law_589 dL_law_590 dL_law_591 dL_law_592 dL_law_593 ?_
  refine lr_s h (kk := 2) (by omega) dL_law_594 dL_law_595 dL_law_596 dL_law_597 dL_law_598 ?_
  refine lr_call h mL_72 (q_dark l g ln ext μ1 hQ.1 (sv xs (i + 1)) (sv xs (i + 2)) (sv_r _ _) (sv_r _ _) hK.1 hK.2.1) (k_60 _ _) ⟨_, rfl, rfl⟩ rfl rfl (Nat.le_of_ble_eq_true rfl) (by decide) (by omega) (by omega) dL_law_599 (fun z2 L2 μ2 hp => ?_)
  obtain ⟨rfl, hq⟩ := hp
  obtain ⟨e12, hr2⟩ := v_dark hr hc hq
  refine lr_eq h e12 dL_law_602 (by decide) ?_
  exact K μ2 hr2
set_option maxRecDepth 100000 in
set_option maxHeartbeats 1000000 in
theorem la_samples {p : Program} {l : Launch} {e : Env} {s : State} {m : MethodId} {below : List Frame} {meth : Method} {c : Code} {g : ot_G} {b N cells slots ln : Nat} {xs : Nat → Int32} {Q : State → Prop} {ext : ot_L} {μ : ot_M} {i : Int} (h : lwX p s m meth c g b N xs) (hgz : ot_gz g) (hr : rel μ) (hc6 : cells ≤ 599000) (hs6 : slots ≤ 7000000) (hi : 0 ≤ i ∧ i + 6 ≤ (N : Int)) (K : ∀ μ2 : ot_M, rel μ2 → LW p l e s m below meth c g b Q cells slots (LL ln ext) μ2 1154 i []) : LW p l e s m below meth c g b Q cells slots (LL ln ext) μ 607 i [] := by
  have hOk := hr.1
  have hUn := hr.2.2.2.1
  have hTp := hr.2.2.2.2.1
  have hLw := hr.2.2.2.2.2.1
  refine lr_x h dL_law_607 ?_
  refine lr_s h (kk := 1) (by omega) dL_law_608 dL_law_609 dL_law_610 dL_law_611 dL_law_612 ?_
  refine lr_s h (kk := 2) (by omega) dL_law_613 dL_law_614 dL_law_615 dL_law_616 dL_law_617 ?_
  refine lr_s h (kk := 3) (by omega) dL_law_618 dL_law_619 dL_law_620 dL_law_621 dL_law_622 ?_
  refine lr_s h (kk := 4) (by omega) dL_law_623 dL_law_624 dL_law_625 dL_law_626 dL_law_627 ?_
  refine lr_call h mL_73 (c_samples l g ln ext μ (sv xs (i + 1)) (sv xs (i + 2)) (sv xs (i + 3)) (sv xs (i + 4)) (sv_r _ _) (sv_r _ _) (sv_r _ _) (sv_r _ _) hOk.1 hr.2.1) (k_0 _ _) ⟨_, rfl, rfl⟩ rfl rfl (Nat.le_of_ble_eq_true rfl) (by decide) (by omega) (by omega) dL_law_628 (fun z1 L1 μ1 hp => ?_)
  obtain ⟨rfl, hc⟩ := hp
  have hf := fr_samples hc
  have hQ := relQ_fr (relQ_of hr) hf
  have hK := hQ.2.1
  obtain ⟨⟨x0, x1, x2, x11, x23, x14, x17, x35, x36, x46⟩, ⟨y61, y62, y66, y67, y63, y65, y64, y69, y70, y68, y72, y71⟩, z74, z75, z76, z77, z78⟩ := crQ hr hf
  refine lr_m h dL_law_631 ?_
  refine lr_s h (kk := 1) (by omega) dL_law_632 dL_law_633 dL_law_634 dL_law_635 dL_law_636 ?_
  refine lr_s h (kk := 2) (by omega) dL_law_637 dL_law_638 dL_law_639 dL_law_640 dL_law_641 ?_
  refine lr_s h (kk := 3) (by omega) dL_law_642 dL_law_643 dL_law_644 dL_law_645 dL_law_646 ?_
  refine lr_s h (kk := 4) (by omega) dL_law_647 dL_law_648 dL_law_649 dL_law_650 dL_law_651 ?_
  refine lr_call h mL_77 (q_samples l g ln ext μ1 hQ.1 (sv xs (i + 1)) (sv xs (i + 2)) (sv xs (i + 3)) (sv xs (i + 4)) (sv_r _ _) (sv_r _ _) (sv_r _ _) (sv_r _ _) hK.1) (k_60 _ _) ⟨_, rfl, rfl⟩ rfl rfl (Nat.le_of_ble_eq_true rfl) (by decide) (by omega) (by omega) dL_law_652 (fun z2 L2 μ2 hp => ?_)
  obtain ⟨rfl, hq⟩ := hp
  obtain ⟨e12, hr2⟩ := v_samples hr hc hq
  refine lr_eq h e12 dL_law_655 (by decide) ?_
  exact K μ2 hr2
set_option maxRecDepth 100000 in
set_option maxHeartbeats 1000000 in
theorem la_far {p : Program} {l : Launch} {e : Env} {s : State} {m : MethodId} {below : List Frame} {meth : Method} {c : Code} {g : ot_G} {b N cells slots ln : Nat} {xs : Nat → Int32} {Q : State → Prop} {ext : ot_L} {μ : ot_M} {i : Int} (h : lwX p s m meth c g b N xs) (hgz : ot_gz g) (hr : rel μ) (hc6 : cells ≤ 599000) (hs6 : slots ≤ 7000000) (hi : 0 ≤ i ∧ i + 6 ≤ (N : Int)) (K : ∀ μ2 : ot_M, rel μ2 → LW p l e s m below meth c g b Q cells slots (LL ln ext) μ2 1154 i []) : LW p l e s m below meth c g b Q cells slots (LL ln ext) μ 660 i [] := by
  have hOk := hr.1
  have hUn := hr.2.2.2.1
  have hTp := hr.2.2.2.2.1
  have hLw := hr.2.2.2.2.2.1
  refine lr_x h dL_law_660 ?_
  refine lr_s h (kk := 1) (by omega) dL_law_661 dL_law_662 dL_law_663 dL_law_664 dL_law_665 ?_
  refine lr_call h mL_78 (c_far l g ln ext μ (sv xs (i + 1)) (sv_r _ _) (ok_far hOk hr.2.2.1.1)) (k_0 _ _) ⟨_, rfl, rfl⟩ rfl rfl (Nat.le_of_ble_eq_true rfl) (by decide) (by omega) (by omega) dL_law_666 (fun z1 L1 μ1 hp => ?_)
  obtain ⟨rfl, hc⟩ := hp
  have hf := fr_far hc
  have hQ := relQ_fr (relQ_of hr) hf
  have hK := hQ.2.1
  obtain ⟨⟨x0, x1, x2, x11, x23, x14, x17, x35, x36, x46⟩, ⟨y61, y62, y66, y67, y63, y65, y64, y69, y70, y68, y72, y71⟩, z74, z75, z76, z77, z78⟩ := crQ hr hf
  refine lr_m h dL_law_669 ?_
  refine lr_s h (kk := 1) (by omega) dL_law_670 dL_law_671 dL_law_672 dL_law_673 dL_law_674 ?_
  refine lr_call h mL_81 (q_far l g ln ext μ1 hQ.1 (sv xs (i + 1)) (sv_r _ _) hK.1 hK.2.1 (ok_far hK (fun _ _ _ => rfl))) (k_60 _ _) ⟨_, rfl, rfl⟩ rfl rfl (Nat.le_of_ble_eq_true rfl) (by decide) (by omega) (by omega) dL_law_675 (fun z2 L2 μ2 hp => ?_)
  obtain ⟨rfl, hq⟩ := hp
  obtain ⟨e12, hr2⟩ := v_far hr hc hq
  refine lr_eq h e12 dL_law_678 (by decide) ?_
  exact K μ2 hr2
set_option maxRecDepth 100000 in
set_option maxHeartbeats 1000000 in
theorem la_next {p : Program} {l : Launch} {e : Env} {s : State} {m : MethodId} {below : List Frame} {meth : Method} {c : Code} {g : ot_G} {b N cells slots ln : Nat} {xs : Nat → Int32} {Q : State → Prop} {ext : ot_L} {μ : ot_M} {i : Int} (h : lwX p s m meth c g b N xs) (hgz : ot_gz g) (hr : rel μ) (hc6 : cells ≤ 599000) (hs6 : slots ≤ 7000000) (hi : 0 ≤ i ∧ i + 6 ≤ (N : Int)) (K : ∀ μ2 : ot_M, rel μ2 → LW p l e s m below meth c g b Q cells slots (LL ln ext) μ2 1154 i []) : LW p l e s m below meth c g b Q cells slots (LL ln ext) μ 683 i [] := by
  have hOk := hr.1
  have hUn := hr.2.2.2.1
  have hTp := hr.2.2.2.2.1
  have hLw := hr.2.2.2.2.2.1
  refine lr_x h dL_law_683 ?_
  refine lr_s h (kk := 1) (by omega) dL_law_684 dL_law_685 dL_law_686 dL_law_687 dL_law_688 ?_
  refine lr_s h (kk := 2) (by omega) dL_law_689 dL_law_690 dL_law_691 dL_law_692 dL_law_693 ?_
  refine lr_s h (kk := 3) (by omega) dL_law_694 dL_law_695 dL_law_696 dL_law_697 dL_law_698 ?_
  refine lr_call h mL_82 (c_next l g ln ext μ (μ 77) (μ 78) (μ 74) (μ 75) (μ 76) (sv xs (i + 1)) (sv xs (i + 2)) (sv xs (i + 3)) (sv_r _ _) (sv_r _ _) (sv_r _ _) hOk.1 hr.2.1 hOk.2.1 hr.2.2.1 hLw.1 hOk.2.2.1 hOk.2.2.2.1 hOk.2.2.2.2.1) (k_0 _ _) ⟨_, rfl, rfl⟩ rfl rfl (Nat.le_of_ble_eq_true rfl) (by decide) (by omega) (by omega) dL_law_699 (fun z1 L1 μ1 hp => ?_)
  obtain ⟨rfl, hc⟩ := hp
  have hf := fr_next hc
  have hQ := relQ_fr (relQ_of hr) hf
  have hK := hQ.2.1
  obtain ⟨⟨x0, x1, x2, x11, x23, x14, x17, x35, x36, x46⟩, ⟨y61, y62, y66, y67, y63, y65, y64, y69, y70, y68, y72, y71⟩, z74, z75, z76, z77, z78⟩ := crQ hr hf
  refine lr_m h dL_law_702 ?_
  refine lr_s h (kk := 1) (by omega) dL_law_703 dL_law_704 dL_law_705 dL_law_706 dL_law_707 ?_
  refine lr_s h (kk := 2) (by omega) dL_law_708 dL_law_709 dL_law_710 dL_law_711 dL_law_712 ?_
  refine lr_s h (kk := 3) (by omega) dL_law_713 dL_law_714 dL_law_715 dL_law_716 dL_law_717 ?_
  refine lr_call h mL_86 (q_next l g ln ext μ1 hQ.1 (sv xs (i + 1)) (sv xs (i + 2)) (sv xs (i + 3)) _ rfl (sv_r _ _) (sv_r _ _) (sv_r _ _) hK.1 hK.2.1 hQ.2.2.1 hK.2.2.1 hK.2.2.2.1 hK.2.2.2.2.1) (k_60 _ _) ⟨_, rfl, rfl⟩ rfl rfl (Nat.le_of_ble_eq_true rfl) (by decide) (by omega) (by omega) dL_law_718 (fun z2 L2 μ2 hp => ?_)
  obtain ⟨rfl, hq⟩ := hp
  obtain ⟨e12, hr2⟩ := v_next hr hc hq
  refine lr_eq h e12 dL_law_721 (by decide) ?_
  exact K μ2 hr2
set_option maxRecDepth 100000 in
set_option maxHeartbeats 1000000 in
theorem la_greedy {p : Program} {l : Launch} {e : Env} {s : State} {m : MethodId} {below : List Frame} {meth : Method} {c : Code} {g : ot_G} {b N cells slots ln : Nat} {xs : Nat → Int32} {Q : State → Prop} {ext : ot_L} {μ : ot_M} {i : Int} (h : lwX p s m meth c g b N xs) (hgz : ot_gz g) (hr : rel μ) (hc6 : cells ≤ 599000) (hs6 : slots ≤ 7000000) (hi : 0 ≤ i ∧ i + 6 ≤ (N : Int)) (K : ∀ μ2 : ot_M, rel μ2 → LW p l e s m below meth c g b Q cells slots (LL ln ext) μ2 1154 i []) : LW p l e s m below meth c g b Q cells slots (LL ln ext) μ 726 i [] := by
  have hOk := hr.1
  have hUn := hr.2.2.2.1
  have hTp := hr.2.2.2.2.1
  have hLw := hr.2.2.2.2.2.1
  refine lr_x h dL_law_726 ?_
  refine lr_s h (kk := 1) (by omega) dL_law_727 dL_law_728 dL_law_729 dL_law_730 dL_law_731 ?_
  refine lr_s h (kk := 2) (by omega) dL_law_732 dL_law_733 dL_law_734 dL_law_735 dL_law_736 ?_
  refine lr_s h (kk := 3) (by omega) dL_law_737 dL_law_738 dL_law_739 dL_law_740 dL_law_741 ?_
  refine lr_s h (kk := 4) (by omega) dL_law_742 dL_law_743 dL_law_744 dL_law_745 dL_law_746 ?_
  refine lr_call h mL_87 (c_greedy l g ln ext μ (μ 77) (μ 78) (μ 74) (μ 75) (μ 76) (sv xs (i + 1)) (sv xs (i + 2)) (sv xs (i + 3)) (sv xs (i + 4)) (grS (fun cnt row => nextS (μ 77) (μ 78) (μ 74) (μ 75) (μ 76) (μ 12 4) (μ 1 11) (μ 1 12) (μ 2) (μ 3) (μ 6) (μ 5) (μ 4) (sv xs (i + 2)) (sv xs (i + 1)) cnt row) (sv xs (i + 1)) (sv xs (i + 3)).toNat (μ 8) (μ 7)).1 (grS (fun cnt row => nextS (μ 77) (μ 78) (μ 74) (μ 75) (μ 76) (μ 12 4) (μ 1 11) (μ 1 12) (μ 2) (μ 3) (μ 6) (μ 5) (μ 4) (sv xs (i + 2)) (sv xs (i + 1)) cnt row) (sv xs (i + 1)) (sv xs (i + 3)).toNat (μ 8) (μ 7)).2.1 (grS (fun cnt row => nextS (μ 77) (μ 78) (μ 74) (μ 75) (μ 76) (μ 12 4) (μ 1 11) (μ 1 12) (μ 2) (μ 3) (μ 6) (μ 5) (μ 4) (sv xs (i + 2)) (sv xs (i + 1)) cnt row) (sv xs (i + 1)) (sv xs (i + 3)).toNat (μ 8) (μ 7)).2.2 (fun cnt row => nextS (μ 77) (μ 78) (μ 74) (μ 75) (μ 76) (μ 12 4) (μ 1 11) (μ 1 12) (μ 2) (μ 3) (μ 6) (μ 5) (μ 4) (sv xs (i + 2)) (sv xs (i + 1)) cnt row) rfl rfl (sv_r _ _) (sv_r _ _) (sv_r _ _) (sv_r _ _) hOk.1 hr.2.1 hOk.2.1 hr.2.2.1 hLw.1 hOk.2.2.1 hOk.2.2.2.1 hOk.2.2.2.2.1) (k_0 _ _) ⟨_, rfl, rfl⟩ rfl rfl (Nat.le_of_ble_eq_true rfl) (by decide) (by omega) (by omega) dL_law_747 (fun z1 L1 μ1 hp => ?_)
  obtain ⟨rfl, hc⟩ := hp
  have hf := fr_greedy hc
  have hQ := relQ_fr (relQ_of hr) hf
  have hK := hQ.2.1
  obtain ⟨⟨x0, x1, x2, x11, x23, x14, x17, x35, x36, x46⟩, ⟨y61, y62, y66, y67, y63, y65, y64, y69, y70, y68, y72, y71⟩, z74, z75, z76, z77, z78⟩ := crQ hr hf
  refine lr_m h dL_law_750 ?_
  refine lr_s h (kk := 1) (by omega) dL_law_751 dL_law_752 dL_law_753 dL_law_754 dL_law_755 ?_
  refine lr_s h (kk := 2) (by omega) dL_law_756 dL_law_757 dL_law_758 dL_law_759 dL_law_760 ?_
  refine lr_s h (kk := 3) (by omega) dL_law_761 dL_law_762 dL_law_763 dL_law_764 dL_law_765 ?_
  refine lr_s h (kk := 4) (by omega) dL_law_766 dL_law_767 dL_law_768 dL_law_769 dL_law_770 ?_
  refine lr_call h mL_90 (q_greedy l g ln ext μ1 hQ.1 (sv xs (i + 1)) (sv xs (i + 2)) (sv xs (i + 3)) (sv xs (i + 4)) (grS (fun cnt row => nextS (μ1 77) (μ1 78) (μ1 74) (μ1 75) (μ1 76) (μ1 60 23) (μ1 60 1) (μ1 60 2) (μ1 61) (μ1 62) (μ1 63) (fun k => μ1 67 k + 1) (μ1 66) (sv xs (i + 2)) (sv xs (i + 1)) cnt row) (sv xs (i + 1)) (sv xs (i + 3)).toNat (μ1 64) (μ1 65)).1 (grS (fun cnt row => nextS (μ1 77) (μ1 78) (μ1 74) (μ1 75) (μ1 76) (μ1 60 23) (μ1 60 1) (μ1 60 2) (μ1 61) (μ1 62) (μ1 63) (fun k => μ1 67 k + 1) (μ1 66) (sv xs (i + 2)) (sv xs (i + 1)) cnt row) (sv xs (i + 1)) (sv xs (i + 3)).toNat (μ1 64) (μ1 65)).2.1 (grS (fun cnt row => nextS (μ1 77) (μ1 78) (μ1 74) (μ1 75) (μ1 76) (μ1 60 23) (μ1 60 1) (μ1 60 2) (μ1 61) (μ1 62) (μ1 63) (fun k => μ1 67 k + 1) (μ1 66) (sv xs (i + 2)) (sv xs (i + 1)) cnt row) (sv xs (i + 1)) (sv xs (i + 3)).toNat (μ1 64) (μ1 65)).2.2 (fun cnt row => nextS (μ1 77) (μ1 78) (μ1 74) (μ1 75) (μ1 76) (μ1 60 23) (μ1 60 1) (μ1 60 2) (μ1 61) (μ1 62) (μ1 63) (fun k => μ1 67 k + 1) (μ1 66) (sv xs (i + 2)) (sv xs (i + 1)) cnt row) rfl rfl (sv_r _ _) (sv_r _ _) (sv_r _ _) (sv_r _ _) hK.1 hK.2.1 hQ.2.2.1 hK.2.2.1 hK.2.2.2.1 hK.2.2.2.2.1) (k_60 _ _) ⟨_, rfl, rfl⟩ rfl rfl (Nat.le_of_ble_eq_true rfl) (by decide) (by omega) (by omega) dL_law_771 (fun z2 L2 μ2 hp => ?_)
  obtain ⟨rfl, hq⟩ := hp
  obtain ⟨e12, hr2⟩ := v_greedy hr rfl rfl rfl rfl hc hq
  refine lr_eq h e12 dL_law_774 (by decide) ?_
  exact K μ2 hr2
set_option maxRecDepth 100000 in
set_option maxHeartbeats 1000000 in
theorem la_worst {p : Program} {l : Launch} {e : Env} {s : State} {m : MethodId} {below : List Frame} {meth : Method} {c : Code} {g : ot_G} {b N cells slots ln : Nat} {xs : Nat → Int32} {Q : State → Prop} {ext : ot_L} {μ : ot_M} {i : Int} (h : lwX p s m meth c g b N xs) (hgz : ot_gz g) (hr : rel μ) (hc6 : cells ≤ 599000) (hs6 : slots ≤ 7000000) (hi : 0 ≤ i ∧ i + 6 ≤ (N : Int)) (K : ∀ μ2 : ot_M, rel μ2 → LW p l e s m below meth c g b Q cells slots (LL ln ext) μ2 1154 i []) : LW p l e s m below meth c g b Q cells slots (LL ln ext) μ 779 i [] := by
  have hOk := hr.1
  have hUn := hr.2.2.2.1
  have hTp := hr.2.2.2.2.1
  have hLw := hr.2.2.2.2.2.1
  refine lr_x h dL_law_779 ?_
  refine lr_s h (kk := 1) (by omega) dL_law_780 dL_law_781 dL_law_782 dL_law_783 dL_law_784 ?_
  refine lr_s h (kk := 2) (by omega) dL_law_785 dL_law_786 dL_law_787 dL_law_788 dL_law_789 ?_
  refine lr_call h mL_91 (c_worst l g ln ext μ (sv xs (i + 1)) (sv xs (i + 2)) _ rfl (sv_r _ _) (sv_r _ _) hOk.1 hr.2.1 hOk.2.1 (ok_far hOk hr.2.2.1.1) hOk.2.2.1 hOk.2.2.2.1) (k_0 _ _) ⟨_, rfl, rfl⟩ rfl rfl (Nat.le_of_ble_eq_true rfl) (by decide) (by omega) (by omega) dL_law_790 (fun z1 L1 μ1 hp => ?_)
  obtain ⟨rfl, hc⟩ := hp
  have hf := fr_worst hc
  have hQ := relQ_fr (relQ_of hr) hf
  have hK := hQ.2.1
  obtain ⟨⟨x0, x1, x2, x11, x23, x14, x17, x35, x36, x46⟩, ⟨y61, y62, y66, y67, y63, y65, y64, y69, y70, y68, y72, y71⟩, z74, z75, z76, z77, z78⟩ := crQ hr hf
  refine lr_m h dL_law_793 ?_
  refine lr_s h (kk := 1) (by omega) dL_law_794 dL_law_795 dL_law_796 dL_law_797 dL_law_798 ?_
  refine lr_s h (kk := 2) (by omega) dL_law_799 dL_law_800 dL_law_801 dL_law_802 dL_law_803 ?_
  refine lr_call h mL_94 (q_worst l g ln ext μ1 hQ.1 (sv xs (i + 1)) (sv xs (i + 2)) _ _ rfl rfl (sv_r _ _) (sv_r _ _) hK.1 hK.2.1 hK.2.2.2.2.1 hK.2.2.1 hK.2.2.2.1) (k_60 _ _) ⟨_, rfl, rfl⟩ rfl rfl (Nat.le_of_ble_eq_true rfl) (by decide) (by omega) (by omega) dL_law_804 (fun z2 L2 μ2 hp => ?_)
  obtain ⟨rfl, hq⟩ := hp
  obtain ⟨e12, hr2⟩ := v_worst hr rfl rfl rfl hc hq
  refine lr_eq h e12 dL_law_807 (by decide) ?_
  exact K μ2 hr2
set_option maxRecDepth 100000 in
set_option maxHeartbeats 1000000 in
theorem la_line {p : Program} {l : Launch} {e : Env} {s : State} {m : MethodId} {below : List Frame} {meth : Method} {c : Code} {g : ot_G} {b N cells slots ln : Nat} {xs : Nat → Int32} {Q : State → Prop} {ext : ot_L} {μ : ot_M} {i : Int} (h : lwX p s m meth c g b N xs) (hgz : ot_gz g) (hr : rel μ) (hc6 : cells ≤ 599000) (hs6 : slots ≤ 7000000) (hi : 0 ≤ i ∧ i + 6 ≤ (N : Int)) (K : ∀ μ2 : ot_M, rel μ2 → LW p l e s m below meth c g b Q cells slots (LL ln ext) μ2 1154 i []) : LW p l e s m below meth c g b Q cells slots (LL ln ext) μ 812 i [] := by
  have hOk := hr.1
  have hUn := hr.2.2.2.1
  have hTp := hr.2.2.2.2.1
  have hLw := hr.2.2.2.2.2.1
  refine lr_x h dL_law_812 ?_
  refine lr_s h (kk := 1) (by omega) dL_law_813 dL_law_814 dL_law_815 dL_law_816 dL_law_817 ?_
  refine lr_s h (kk := 2) (by omega) dL_law_818 dL_law_819 dL_law_820 dL_law_821 dL_law_822 ?_
  refine lr_call h mL_95 (c_line l g ln ext μ (sv xs (i + 1)) (sv xs (i + 2)) (sv_r _ _) (sv_r _ _) hOk.1.2.1 hOk.2.2.2.2.2.1.1 (ok_l24 hOk)) (k_0 _ _) ⟨_, rfl, rfl⟩ rfl rfl (Nat.le_of_ble_eq_true rfl) (by decide) (by omega) (by omega) dL_law_823 (fun z1 L1 μ1 hp => ?_)
  obtain ⟨rfl, hc⟩ := hp
  have hf := fr_line hc
  have hQ := relQ_fr (relQ_of hr) hf
  have hK := hQ.2.1
  obtain ⟨⟨x0, x1, x2, x11, x23, x14, x17, x35, x36, x46⟩, ⟨y61, y62, y66, y67, y63, y65, y64, y69, y70, y68, y72, y71⟩, z74, z75, z76, z77, z78⟩ := crQ hr hf
  refine lr_m h dL_law_826 ?_
  refine lr_s h (kk := 1) (by omega) dL_law_827 dL_law_828 dL_law_829 dL_law_830 dL_law_831 ?_
  refine lr_s h (kk := 2) (by omega) dL_law_832 dL_law_833 dL_law_834 dL_law_835 dL_law_836 ?_
  refine lr_call h mL_98 (q_line l g ln ext μ1 hQ.1 (sv xs (i + 1)) (sv xs (i + 2)) (sv_r _ _) (sv_r _ _) hK.1.2.1 hK.2.2.2.2.2.1.1 (ok_l24 hK)) (k_60 _ _) ⟨_, rfl, rfl⟩ rfl rfl (Nat.le_of_ble_eq_true rfl) (by decide) (by omega) (by omega) dL_law_837 (fun z2 L2 μ2 hp => ?_)
  obtain ⟨rfl, hq⟩ := hp
  obtain ⟨e12, hr2⟩ := v_line hr hc hq
  refine lr_eq h e12 dL_law_840 (by decide) ?_
  exact K μ2 hr2
set_option maxRecDepth 100000 in
set_option maxHeartbeats 1000000 in
theorem la_clear {p : Program} {l : Launch} {e : Env} {s : State} {m : MethodId} {below : List Frame} {meth : Method} {c : Code} {g : ot_G} {b N cells slots ln : Nat} {xs : Nat → Int32} {Q : State → Prop} {ext : ot_L} {μ : ot_M} {i : Int} (h : lwX p s m meth c g b N xs) (hgz : ot_gz g) (hr : rel μ) (hc6 : cells ≤ 599000) (hs6 : slots ≤ 7000000) (hi : 0 ≤ i ∧ i + 6 ≤ (N : Int)) (K : ∀ μ2 : ot_M, rel μ2 → LW p l e s m below meth c g b Q cells slots (LL ln ext) μ2 1154 i []) : LW p l e s m below meth c g b Q cells slots (LL ln ext) μ 845 i [] := by
  have hOk := hr.1
  have hUn := hr.2.2.2.1
  have hTp := hr.2.2.2.2.1
  have hLw := hr.2.2.2.2.2.1
  refine lr_x h dL_law_845 ?_
  refine lr_call h mL_99 (c_clear l g ln ext μ ) (k_0 _ _) ⟨_, rfl, rfl⟩ rfl rfl (Nat.le_of_ble_eq_true rfl) (by decide) (by omega) (by omega) dL_law_846 (fun z1 L1 μ1 hp => ?_)
  obtain ⟨rfl, hc⟩ := hp
  have hf := fr_clear hc
  have hQ := relQ_fr (relQ_of hr) hf
  have hK := hQ.2.1
  obtain ⟨⟨x0, x1, x2, x11, x23, x14, x17, x35, x36, x46⟩, ⟨y61, y62, y66, y67, y63, y65, y64, y69, y70, y68, y72, y71⟩, z74, z75, z76, z77, z78⟩ := crQ hr hf
  refine lr_m h dL_law_849 ?_
  refine lr_call h mL_102 (q_clear l g ln ext μ1 hQ.1) (k_60 _ _) ⟨_, rfl, rfl⟩ rfl rfl (Nat.le_of_ble_eq_true rfl) (by decide) (by omega) (by omega) dL_law_850 (fun z2 L2 μ2 hp => ?_)
  obtain ⟨rfl, hq⟩ := hp
  obtain ⟨e12, hr2⟩ := v_clear hr hc hq
  refine lr_eq h e12 dL_law_853 (by decide) ?_
  exact K μ2 hr2
set_option maxRecDepth 100000 in
set_option maxHeartbeats 1000000 in
theorem la_thread {p : Program} {l : Launch} {e : Env} {s : State} {m : MethodId} {below : List Frame} {meth : Method} {c : Code} {g : ot_G} {b N cells slots ln : Nat} {xs : Nat → Int32} {Q : State → Prop} {ext : ot_L} {μ : ot_M} {i : Int} (h : lwX p s m meth c g b N xs) (hgz : ot_gz g) (hr : rel μ) (hc6 : cells ≤ 599000) (hs6 : slots ≤ 7000000) (hi : 0 ≤ i ∧ i + 6 ≤ (N : Int)) {nl : Nat} (hln : gLn ln nl ext) (K : ∀ (ln2 : Nat) (ext2 : ot_L) (nl2 : Nat) (μ2 : ot_M), gLn ln2 nl2 ext2 → rel μ2 → LW p l e s m below meth c g b Q (cells + 1) (slots + 4096) (LL ln2 ext2) μ2 1154 i []) : LW p l e s m below meth c g b Q cells slots (LL ln ext) μ 858 i [] := by
  have hOk := hr.1
  have hUn := hr.2.2.2.1
  have hTp := hr.2.2.2.2.1
  have hLw := hr.2.2.2.2.2.1
  refine lr_x h dL_law_858 ?_
  refine lr_s h (kk := 1) (by omega) dL_law_859 dL_law_860 dL_law_861 dL_law_862 dL_law_863 ?_
  refine lr_call h mL_103 (c_thread l g ln ext μ (sv xs (i + 1)) (sv_r _ _) hOk.2.2.2.2.2.1 _ rfl _ rfl hOk.1 hOk.2.2.2.2.2.2.1 nl hln) (k_0 _ _) ⟨_, rfl, rfl⟩ rfl rfl (Nat.le_of_ble_eq_true rfl) (by decide) (by omega) (by omega) dL_law_864 (fun z1 L1 μ1 hp => ?_)
  obtain ⟨ln2, ext2, nl2, F, G, F3, hln2, rfl, e1, e2⟩ := hp
  have hf : frQ μ μ1 := by
    rw [e1]
    have h44 := hln2.2.1
    (repeat (first | exact fq_rfl | refine fq_uc ?_ (by omega) | refine fq_up ?_ (by omega)))
  have hQ := relQ_fr (relQ_of hr) hf
  have hK := hQ.2.1
  obtain ⟨⟨x0, x1, x2, x11, x23, x14, x17, x35, x36, x46⟩, ⟨y61, y62, y66, y67, y63, y65, y64, y69, y70, y68, y72, y71⟩, z74, z75, z76, z77, z78⟩ := crQ hr hf
  refine lr_m h dL_law_867 ?_
  refine lr_s h (kk := 1) (by omega) dL_law_868 dL_law_869 dL_law_870 dL_law_871 dL_law_872 ?_
  refine lr_call h mL_106 (q_thread l g ln2 ext2 μ1 hQ.1 (sv xs (i + 1)) (sv_r _ _) hK.2.2.2.2.2.1 _ rfl _ rfl hK.1 hK.2.2.2.2.2.2.1) (k_60 _ _) ⟨_, rfl, rfl⟩ rfl rfl (Nat.le_of_ble_eq_true rfl) (by decide) (by omega) (by omega) dL_law_873 (fun z2 L2 μ2 hp => ?_)
  obtain ⟨rfl, hq⟩ := hp
  obtain ⟨e12, hr2⟩ := v_thread hr rfl rfl rfl rfl ⟨ln2, F, G, F3, hln2.2.1, e1, e2⟩ hq
  refine lr_eq h e12 dL_law_876 (by decide) ?_
  exact K ln2 ext2 nl2 μ2 hln2 hr2
set_option maxRecDepth 100000 in
set_option maxHeartbeats 1000000 in
theorem la_order {p : Program} {l : Launch} {e : Env} {s : State} {m : MethodId} {below : List Frame} {meth : Method} {c : Code} {g : ot_G} {b N cells slots ln : Nat} {xs : Nat → Int32} {Q : State → Prop} {ext : ot_L} {μ : ot_M} {i : Int} (h : lwX p s m meth c g b N xs) (hgz : ot_gz g) (hr : rel μ) (hc6 : cells ≤ 599000) (hs6 : slots ≤ 7000000) (hi : 0 ≤ i ∧ i + 6 ≤ (N : Int)) (K : ∀ μ2 : ot_M, rel μ2 → LW p l e s m below meth c g b Q cells slots (LL ln ext) μ2 1154 i []) : LW p l e s m below meth c g b Q cells slots (LL ln ext) μ 881 i [] := by
  have hOk := hr.1
  have hUn := hr.2.2.2.1
  have hTp := hr.2.2.2.2.1
  have hLw := hr.2.2.2.2.2.1
  refine lr_x h dL_law_881 ?_
  refine lr_s h (kk := 1) (by omega) dL_law_882 dL_law_883 dL_law_884 dL_law_885 dL_law_886 ?_
  refine lr_call h mL_107 (c_order l g ln ext μ (sv xs (i + 1)) (sv_r _ _) hOk.2.2.2.2.2.1 _ rfl _ rfl) (k_0 _ _) ⟨_, rfl, rfl⟩ rfl rfl (Nat.le_of_ble_eq_true rfl) (by decide) (by omega) (by omega) dL_law_887 (fun z1 L1 μ1 hp => ?_)
  obtain ⟨rfl, hc⟩ := hp
  have hf := fr_order hc
  have hQ := relQ_fr (relQ_of hr) hf
  have hK := hQ.2.1
  obtain ⟨⟨x0, x1, x2, x11, x23, x14, x17, x35, x36, x46⟩, ⟨y61, y62, y66, y67, y63, y65, y64, y69, y70, y68, y72, y71⟩, z74, z75, z76, z77, z78⟩ := crQ hr hf
  refine lr_m h dL_law_890 ?_
  refine lr_s h (kk := 1) (by omega) dL_law_891 dL_law_892 dL_law_893 dL_law_894 dL_law_895 ?_
  refine lr_call h mL_110 (q_order l g ln ext μ1 hQ.1 (sv xs (i + 1)) (sv_r _ _) hK.2.2.2.2.2.1 _ rfl _ rfl) (k_60 _ _) ⟨_, rfl, rfl⟩ rfl rfl (Nat.le_of_ble_eq_true rfl) (by decide) (by omega) (by omega) dL_law_896 (fun z2 L2 μ2 hp => ?_)
  obtain ⟨rfl, hq⟩ := hp
  obtain ⟨e12, hr2⟩ := v_order hr rfl rfl rfl rfl hc hq
  refine lr_eq h e12 dL_law_899 (by decide) ?_
  exact K μ2 hr2
set_option maxRecDepth 100000 in
set_option maxHeartbeats 1000000 in
theorem la_tell {p : Program} {l : Launch} {e : Env} {s : State} {m : MethodId} {below : List Frame} {meth : Method} {c : Code} {g : ot_G} {b N cells slots ln : Nat} {xs : Nat → Int32} {Q : State → Prop} {ext : ot_L} {μ : ot_M} {i : Int} (h : lwX p s m meth c g b N xs) (hgz : ot_gz g) (hr : rel μ) (hc6 : cells ≤ 599000) (hs6 : slots ≤ 7000000) (hi : 0 ≤ i ∧ i + 6 ≤ (N : Int)) (K : ∀ μ2 : ot_M, rel μ2 → LW p l e s m below meth c g b Q cells slots (LL ln ext) μ2 1154 i []) : LW p l e s m below meth c g b Q cells slots (LL ln ext) μ 904 i [] := by
  have hOk := hr.1
  have hUn := hr.2.2.2.1
  have hTp := hr.2.2.2.2.1
  have hLw := hr.2.2.2.2.2.1
  refine lr_x h dL_law_904 ?_
  refine lr_s h (kk := 1) (by omega) dL_law_905 dL_law_906 dL_law_907 dL_law_908 dL_law_909 ?_
  refine lr_s h (kk := 2) (by omega) dL_law_910 dL_law_911 dL_law_912 dL_law_913 dL_law_914 ?_
  refine lr_s h (kk := 3) (by omega) dL_law_915 dL_law_916 dL_law_917 dL_law_918 dL_law_919 ?_
  refine lr_call h mL_111 (c_tell l g ln ext μ (sv xs (i + 1)) (sv xs (i + 2)) (sv xs (i + 3)) (sv_r _ _) (sv_r _ _) (sv_r _ _) hOk.1.1) (k_0 _ _) ⟨_, rfl, rfl⟩ rfl rfl (Nat.le_of_ble_eq_true rfl) (by decide) (by omega) (by omega) dL_law_920 (fun z1 L1 μ1 hp => ?_)
  obtain ⟨rfl, hc⟩ := hp
  have hf := fr_tell hc
  have hQ := relQ_fr (relQ_of hr) hf
  have hK := hQ.2.1
  obtain ⟨⟨x0, x1, x2, x11, x23, x14, x17, x35, x36, x46⟩, ⟨y61, y62, y66, y67, y63, y65, y64, y69, y70, y68, y72, y71⟩, z74, z75, z76, z77, z78⟩ := crQ hr hf
  refine lr_m h dL_law_923 ?_
  refine lr_s h (kk := 1) (by omega) dL_law_924 dL_law_925 dL_law_926 dL_law_927 dL_law_928 ?_
  refine lr_s h (kk := 2) (by omega) dL_law_929 dL_law_930 dL_law_931 dL_law_932 dL_law_933 ?_
  refine lr_s h (kk := 3) (by omega) dL_law_934 dL_law_935 dL_law_936 dL_law_937 dL_law_938 ?_
  refine lr_call h mL_114 (q_tell l g ln ext μ1 hQ.1 (sv xs (i + 1)) (sv xs (i + 2)) (sv xs (i + 3)) (sv_r _ _) (sv_r _ _) (sv_r _ _) hK.1.1) (k_60 _ _) ⟨_, rfl, rfl⟩ rfl rfl (Nat.le_of_ble_eq_true rfl) (by decide) (by omega) (by omega) dL_law_939 (fun z2 L2 μ2 hp => ?_)
  obtain ⟨rfl, hq⟩ := hp
  obtain ⟨e12, hr2⟩ := v_tell hr hc hq
  refine lr_eq h e12 dL_law_942 (by decide) ?_
  exact K μ2 hr2
set_option maxRecDepth 100000 in
set_option maxHeartbeats 1000000 in
theorem la_back {p : Program} {l : Launch} {e : Env} {s : State} {m : MethodId} {below : List Frame} {meth : Method} {c : Code} {g : ot_G} {b N cells slots ln : Nat} {xs : Nat → Int32} {Q : State → Prop} {ext : ot_L} {μ : ot_M} {i : Int} (h : lwX p s m meth c g b N xs) (hgz : ot_gz g) (hr : rel μ) (hc6 : cells ≤ 599000) (hs6 : slots ≤ 7000000) (hi : 0 ≤ i ∧ i + 6 ≤ (N : Int)) (K : ∀ μ2 : ot_M, rel μ2 → LW p l e s m below meth c g b Q cells slots (LL ln ext) μ2 1154 i []) : LW p l e s m below meth c g b Q cells slots (LL ln ext) μ 947 i [] := by
  have hOk := hr.1
  have hUn := hr.2.2.2.1
  have hTp := hr.2.2.2.2.1
  have hLw := hr.2.2.2.2.2.1
  refine lr_x h dL_law_947 ?_
  refine lr_s h (kk := 1) (by omega) dL_law_948 dL_law_949 dL_law_950 dL_law_951 dL_law_952 ?_
  refine lr_call h mL_115 (c_back l g ln ext μ (sv xs (i + 1)) _ rfl (sv_r _ _) hOk.2.2.2.2.2.1.1 hOk.1 hr.2.1 (ok_ln hOk) hOk.2.2.2.2.2.2.2) (k_0 _ _) ⟨_, rfl, rfl⟩ rfl rfl (Nat.le_of_ble_eq_true rfl) (by decide) (by omega) (by omega) dL_law_953 (fun z1 L1 μ1 hp => ?_)
  obtain ⟨rfl, hc⟩ := hp
  have hf := fr_back hc
  have hQ := relQ_fr (relQ_of hr) hf
  have hK := hQ.2.1
  obtain ⟨⟨x0, x1, x2, x11, x23, x14, x17, x35, x36, x46⟩, ⟨y61, y62, y66, y67, y63, y65, y64, y69, y70, y68, y72, y71⟩, z74, z75, z76, z77, z78⟩ := crQ hr hf
  refine lr_m h dL_law_956 ?_
  refine lr_s h (kk := 1) (by omega) dL_law_957 dL_law_958 dL_law_959 dL_law_960 dL_law_961 ?_
  refine lr_call h mL_118 (q_back l g ln ext μ1 hQ.1 (sv xs (i + 1)) _ _ rfl rfl (sv_r _ _) hK.2.2.2.2.2.1.1 hK.1 (ok_ln hK) (fun k a b => by have h68 := hK.2.2.2.2.2.2.2 k a b; dsimp only at h68; omega)) (k_60 _ _) ⟨_, rfl, rfl⟩ rfl rfl (Nat.le_of_ble_eq_true rfl) (by decide) (by omega) (by omega) dL_law_962 (fun z2 L2 μ2 hp => ?_)
  obtain ⟨rfl, hq⟩ := hp
  obtain ⟨e12, hr2⟩ := v_back hr rfl rfl hc hq
  refine lr_eq h e12 dL_law_965 (by decide) ?_
  exact K μ2 hr2
set_option maxRecDepth 100000 in
set_option maxHeartbeats 1000000 in
theorem la_like {p : Program} {l : Launch} {e : Env} {s : State} {m : MethodId} {below : List Frame} {meth : Method} {c : Code} {g : ot_G} {b N cells slots ln : Nat} {xs : Nat → Int32} {Q : State → Prop} {ext : ot_L} {μ : ot_M} {i : Int} (h : lwX p s m meth c g b N xs) (hgz : ot_gz g) (hr : rel μ) (hc6 : cells ≤ 599000) (hs6 : slots ≤ 7000000) (hi : 0 ≤ i ∧ i + 6 ≤ (N : Int)) (K : ∀ μ2 : ot_M, rel μ2 → LW p l e s m below meth c g b Q cells slots (LL ln ext) μ2 1154 i []) : LW p l e s m below meth c g b Q cells slots (LL ln ext) μ 970 i [] := by
  have hOk := hr.1
  have hUn := hr.2.2.2.1
  have hTp := hr.2.2.2.2.1
  have hLw := hr.2.2.2.2.2.1
  refine lr_x h dL_law_970 ?_
  refine lr_call h mL_119 (c_like l g ln ext μ (ok_far hOk hr.2.2.1.1) (ok_fS hOk hr.2.2.1.1)) (k_0 _ _) ⟨_, rfl, rfl⟩ rfl rfl (Nat.le_of_ble_eq_true rfl) (by decide) (by omega) (by omega) dL_law_971 (fun z1 L1 μ1 hp => ?_)
  obtain ⟨rfl, hc⟩ := hp
  have hf := fr_like hc
  have hQ := relQ_fr (relQ_of hr) hf
  have hK := hQ.2.1
  obtain ⟨⟨x0, x1, x2, x11, x23, x14, x17, x35, x36, x46⟩, ⟨y61, y62, y66, y67, y63, y65, y64, y69, y70, y68, y72, y71⟩, z74, z75, z76, z77, z78⟩ := crQ hr hf
  refine lr_m h dL_law_974 ?_
  refine lr_call h mL_122 (q_like l g ln ext μ1 hQ.1 hK.1 hK.2.1 (ok_far hK (fun _ _ _ => rfl)) (fun q a b => by rw [ok_fM hK rfl q a b]; exact ok_fS hK (fun _ _ _ => rfl) q a b)) (k_60 _ _) ⟨_, rfl, rfl⟩ rfl rfl (Nat.le_of_ble_eq_true rfl) (by decide) (by omega) (by omega) dL_law_975 (fun z2 L2 μ2 hp => ?_)
  obtain ⟨rfl, hq⟩ := hp
  obtain ⟨e12, hr2⟩ := v_like hr hc hq
  refine lr_eq h e12 dL_law_978 (by decide) ?_
  exact K μ2 hr2
set_option maxRecDepth 100000 in
set_option maxHeartbeats 1000000 in
theorem la_rule {p : Program} {l : Launch} {e : Env} {s : State} {m : MethodId} {below : List Frame} {meth : Method} {c : Code} {g : ot_G} {b N cells slots ln : Nat} {xs : Nat → Int32} {Q : State → Prop} {ext : ot_L} {μ : ot_M} {i : Int} (h : lwX p s m meth c g b N xs) (hgz : ot_gz g) (hr : rel μ) (hc6 : cells ≤ 599000) (hs6 : slots ≤ 7000000) (hi : 0 ≤ i ∧ i + 6 ≤ (N : Int)) (K : ∀ μ2 : ot_M, rel μ2 → LW p l e s m below meth c g b Q cells slots (LL ln ext) μ2 1154 i []) : LW p l e s m below meth c g b Q cells slots (LL ln ext) μ 983 i [] := by
  have hOk := hr.1
  have hUn := hr.2.2.2.1
  have hTp := hr.2.2.2.2.1
  have hLw := hr.2.2.2.2.2.1
  refine lr_x h dL_law_983 ?_
  refine lr_s h (kk := 1) (by omega) dL_law_984 dL_law_985 dL_law_986 dL_law_987 dL_law_988 ?_
  refine lr_s h (kk := 2) (by omega) dL_law_989 dL_law_990 dL_law_991 dL_law_992 dL_law_993 ?_
  refine lr_s h (kk := 3) (by omega) dL_law_994 dL_law_995 dL_law_996 dL_law_997 dL_law_998 ?_
  refine lr_call h mL_123 (c_rule l g ln ext μ (sv xs (i + 1)) (sv xs (i + 2)) (sv xs (i + 3)) (sv_r _ _) (sv_r _ _) (sv_r _ _) hOk.1.2.1) (k_0 _ _) ⟨_, rfl, rfl⟩ rfl rfl (Nat.le_of_ble_eq_true rfl) (by decide) (by omega) (by omega) dL_law_999 (fun z1 L1 μ1 hp => ?_)
  obtain ⟨rfl, hc⟩ := hp
  have hf := fr_rule hc
  have hQ := relQ_fr (relQ_of hr) hf
  have hK := hQ.2.1
  obtain ⟨⟨x0, x1, x2, x11, x23, x14, x17, x35, x36, x46⟩, ⟨y61, y62, y66, y67, y63, y65, y64, y69, y70, y68, y72, y71⟩, z74, z75, z76, z77, z78⟩ := crQ hr hf
  refine lr_m h dL_law_1002 ?_
  refine lr_s h (kk := 1) (by omega) dL_law_1003 dL_law_1004 dL_law_1005 dL_law_1006 dL_law_1007 ?_
  refine lr_s h (kk := 2) (by omega) dL_law_1008 dL_law_1009 dL_law_1010 dL_law_1011 dL_law_1012 ?_
  refine lr_s h (kk := 3) (by omega) dL_law_1013 dL_law_1014 dL_law_1015 dL_law_1016 dL_law_1017 ?_
  refine lr_call h mL_126 (q_rule l g ln ext μ1 hQ.1 (sv xs (i + 1)) (sv xs (i + 2)) (sv xs (i + 3)) (sv_r _ _) (sv_r _ _) (sv_r _ _) hK.1.2.1) (k_60 _ _) ⟨_, rfl, rfl⟩ rfl rfl (Nat.le_of_ble_eq_true rfl) (by decide) (by omega) (by omega) dL_law_1018 (fun z2 L2 μ2 hp => ?_)
  obtain ⟨rfl, hq⟩ := hp
  obtain ⟨e12, hr2⟩ := v_rule hr hc hq
  refine lr_eq h e12 dL_law_1021 (by decide) ?_
  exact K μ2 hr2
set_option maxRecDepth 100000 in
set_option maxHeartbeats 1000000 in
theorem la_drawn {p : Program} {l : Launch} {e : Env} {s : State} {m : MethodId} {below : List Frame} {meth : Method} {c : Code} {g : ot_G} {b N cells slots ln : Nat} {xs : Nat → Int32} {Q : State → Prop} {ext : ot_L} {μ : ot_M} {i : Int} (h : lwX p s m meth c g b N xs) (hgz : ot_gz g) (hr : rel μ) (hc6 : cells ≤ 599000) (hs6 : slots ≤ 7000000) (hi : 0 ≤ i ∧ i + 6 ≤ (N : Int)) (K : ∀ μ2 : ot_M, rel μ2 → LW p l e s m below meth c g b Q cells slots (LL ln ext) μ2 1154 i []) : LW p l e s m below meth c g b Q cells slots (LL ln ext) μ 1026 i [] := by
  have hOk := hr.1
  have hUn := hr.2.2.2.1
  have hTp := hr.2.2.2.2.1
  have hLw := hr.2.2.2.2.2.1
  refine lr_x h dL_law_1026 ?_
  refine lr_s h (kk := 1) (by omega) dL_law_1027 dL_law_1028 dL_law_1029 dL_law_1030 dL_law_1031 ?_
  refine lr_s h (kk := 2) (by omega) dL_law_1032 dL_law_1033 dL_law_1034 dL_law_1035 dL_law_1036 ?_
  refine lr_s h (kk := 3) (by omega) dL_law_1037 dL_law_1038 dL_law_1039 dL_law_1040 dL_law_1041 ?_
  refine lr_s h (kk := 4) (by omega) dL_law_1042 dL_law_1043 dL_law_1044 dL_law_1045 dL_law_1046 ?_
  refine lr_call h mL_127 (c_drawn l g ln ext μ (sv xs (i + 1)) (sv xs (i + 2)) (sv xs (i + 3)) (sv xs (i + 4)) (sv_r _ _) (sv_r _ _) (sv_r _ _) (sv_r _ _) hOk.1.2.1 hOk.1 hr.2.1) (k_0 _ _) ⟨_, rfl, rfl⟩ rfl rfl (Nat.le_of_ble_eq_true rfl) (by decide) (by omega) (by omega) dL_law_1047 (fun z1 L1 μ1 hp => ?_)
  obtain ⟨rfl, hc⟩ := hp
  have hf := fr_drawn hc
  have hQ := relQ_fr (relQ_of hr) hf
  have hK := hQ.2.1
  obtain ⟨⟨x0, x1, x2, x11, x23, x14, x17, x35, x36, x46⟩, ⟨y61, y62, y66, y67, y63, y65, y64, y69, y70, y68, y72, y71⟩, z74, z75, z76, z77, z78⟩ := crQ hr hf
  refine lr_m h dL_law_1050 ?_
  refine lr_s h (kk := 1) (by omega) dL_law_1051 dL_law_1052 dL_law_1053 dL_law_1054 dL_law_1055 ?_
  refine lr_s h (kk := 2) (by omega) dL_law_1056 dL_law_1057 dL_law_1058 dL_law_1059 dL_law_1060 ?_
  refine lr_s h (kk := 3) (by omega) dL_law_1061 dL_law_1062 dL_law_1063 dL_law_1064 dL_law_1065 ?_
  refine lr_s h (kk := 4) (by omega) dL_law_1066 dL_law_1067 dL_law_1068 dL_law_1069 dL_law_1070 ?_
  refine lr_call h mL_130 (q_drawn l g ln ext μ1 hQ.1 (sv xs (i + 1)) (sv xs (i + 2)) (sv xs (i + 3)) (sv xs (i + 4)) (sv_r _ _) (sv_r _ _) (sv_r _ _) (sv_r _ _) hK.1) (k_60 _ _) ⟨_, rfl, rfl⟩ rfl rfl (Nat.le_of_ble_eq_true rfl) (by decide) (by omega) (by omega) dL_law_1071 (fun z2 L2 μ2 hp => ?_)
  obtain ⟨rfl, hq⟩ := hp
  obtain ⟨e12, hr2⟩ := v_drawn hr hc hq
  refine lr_eq h e12 dL_law_1074 (by decide) ?_
  exact K μ2 hr2
set_option maxRecDepth 100000 in
set_option maxHeartbeats 1000000 in
theorem la_undo {p : Program} {l : Launch} {e : Env} {s : State} {m : MethodId} {below : List Frame} {meth : Method} {c : Code} {g : ot_G} {b N cells slots ln : Nat} {xs : Nat → Int32} {Q : State → Prop} {ext : ot_L} {μ : ot_M} {i : Int} (h : lwX p s m meth c g b N xs) (hgz : ot_gz g) (hr : rel μ) (hc6 : cells ≤ 599000) (hs6 : slots ≤ 7000000) (hi : 0 ≤ i ∧ i + 6 ≤ (N : Int)) (K : ∀ μ2 : ot_M, rel μ2 → LW p l e s m below meth c g b Q cells slots (LL ln ext) μ2 1154 i []) : LW p l e s m below meth c g b Q cells slots (LL ln ext) μ 1079 i [] := by
  have hOk := hr.1
  have hUn := hr.2.2.2.1
  have hTp := hr.2.2.2.2.1
  have hLw := hr.2.2.2.2.2.1
  refine lr_x h dL_law_1079 ?_
  refine lr_call h mL_131 (c_undo l g ln ext μ hOk.1 hr.2.1 hOk.2.1 hr.2.2.1 hUn.1 hUn.2.1) (k_0 _ _) ⟨_, rfl, rfl⟩ rfl rfl (Nat.le_of_ble_eq_true rfl) (by decide) (by omega) (by omega) dL_law_1080 (fun z1 L1 μ1 hp => ?_)
  obtain ⟨rfl, hc⟩ := hp
  have hf := fr_undo hc
  have hQ := relQ_fr (relQ_of hr) hf
  have hK := hQ.2.1
  obtain ⟨⟨x0, x1, x2, x11, x23, x14, x17, x35, x36, x46⟩, ⟨y61, y62, y66, y67, y63, y65, y64, y69, y70, y68, y72, y71⟩, z74, z75, z76, z77, z78⟩ := crQ hr hf
  refine lr_m h dL_law_1083 ?_
  refine lr_call h mL_135 (q_undo l g ln ext μ1 hQ.1 hQ.2.2.2.1.1 hQ.2.2.2.1.2) (k_60 _ _) ⟨_, rfl, rfl⟩ rfl rfl (Nat.le_of_ble_eq_true rfl) (by decide) (by omega) (by omega) dL_law_1084 (fun z2 L2 μ2 hp => ?_)
  obtain ⟨rfl, hq⟩ := hp
  obtain ⟨e12, hr2⟩ := v_undo hr hc hq
  refine lr_eq h e12 dL_law_1087 (by decide) ?_
  exact K μ2 hr2
set_option maxRecDepth 100000 in
set_option maxHeartbeats 1000000 in
theorem la_look {p : Program} {l : Launch} {e : Env} {s : State} {m : MethodId} {below : List Frame} {meth : Method} {c : Code} {g : ot_G} {b N cells slots ln : Nat} {xs : Nat → Int32} {Q : State → Prop} {ext : ot_L} {μ : ot_M} {i : Int} (h : lwX p s m meth c g b N xs) (hgz : ot_gz g) (hr : rel μ) (hc6 : cells ≤ 599000) (hs6 : slots ≤ 7000000) (hi : 0 ≤ i ∧ i + 6 ≤ (N : Int)) (K : ∀ μ2 : ot_M, rel μ2 → LW p l e s m below meth c g b Q cells slots (LL ln ext) μ2 1154 i []) : LW p l e s m below meth c g b Q cells slots (LL ln ext) μ 1131 i [] := by
  have hOk := hr.1
  have hUn := hr.2.2.2.1
  have hTp := hr.2.2.2.2.1
  have hLw := hr.2.2.2.2.2.1
  refine lr_x h dL_law_1131 ?_
  refine lr_s h (kk := 1) (by omega) dL_law_1132 dL_law_1133 dL_law_1134 dL_law_1135 dL_law_1136 ?_
  refine lr_call h mL_141 (c_look l g ln ext μ (sv xs (i + 1)) (sv_r _ _) hOk.1 hOk.2.1) (k_0 _ _) ⟨_, rfl, rfl⟩ rfl rfl (Nat.le_of_ble_eq_true rfl) (by decide) (by omega) (by omega) dL_law_1137 (fun z1 L1 μ1 hp => ?_)
  obtain ⟨rfl, hc⟩ := hp
  have hf := fr_look hc
  have hQ := relQ_fr (relQ_of hr) hf
  have hK := hQ.2.1
  obtain ⟨⟨x0, x1, x2, x11, x23, x14, x17, x35, x36, x46⟩, ⟨y61, y62, y66, y67, y63, y65, y64, y69, y70, y68, y72, y71⟩, z74, z75, z76, z77, z78⟩ := crQ hr hf
  refine lr_m h dL_law_1140 ?_
  refine lr_s h (kk := 1) (by omega) dL_law_1141 dL_law_1142 dL_law_1143 dL_law_1144 dL_law_1145 ?_
  refine lr_call h mL_144 (q_look l g ln ext μ1 hQ.1 (sv xs (i + 1)) (sv_r _ _) hK.1 hK.2.1) (k_60 _ _) ⟨_, rfl, rfl⟩ rfl rfl (Nat.le_of_ble_eq_true rfl) (by decide) (by omega) (by omega) dL_law_1146 (fun z2 L2 μ2 hp => ?_)
  obtain ⟨rfl, hq⟩ := hp
  obtain ⟨e12, hr2⟩ := v_look hr hc hq
  refine lr_eq h e12 dL_law_1149 (by decide) ?_
  exact K μ2 hr2

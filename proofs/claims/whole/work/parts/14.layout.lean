/-! THE LAYOUT: 88 cells, as the law makes them; ln: the cell of Net.least, which is made anew; ext: cells made later -/
def LL (ln : Nat) (ext : ot_L) : ot_L := [(11, 0, [some 1, some 17, none, some 33, some 40, some 41, some 45, some 47, some 49, some 58, none, none, none, some 59, none]),
  (10, 0, [some 2, some 3, some 4, some 5, some 6, some 7, some 8, some 9, some 10, some 11, some 12, none, none, none]),
  (0, 24, []),
  (0, 24, []),
  (0, 256, []),
  (0, 64, []),
  (0, 3, []),
  (0, 360, []),
  (0, 3, []),
  (0, 20, []),
  (0, 20, []),
  (0, 64, []),
  (5, 0, [some 13, some 14, some 15, some 16, none]),
  (0, 400, []),
  (0, 16, []),
  (1, 16, []),
  (0, 32, []),
  (10, 0, [some 18, some 19, some 20, some 21, some 22, some 23, some 24, some 25, some 26, some 27, some 28, none, none, none]),
  (0, 24, []),
  (0, 24, []),
  (0, 256, []),
  (0, 64, []),
  (0, 3, []),
  (0, 360, []),
  (0, 3, []),
  (0, 20, []),
  (0, 20, []),
  (0, 64, []),
  (5, 0, [some 29, some 30, some 31, some 32, none]),
  (0, 400, []),
  (0, 16, []),
  (1, 16, []),
  (0, 32, []),
  (3, 0, [some 1, some 37, some 34, some 35, some 36]),
  (0, 64, []),
  (0, 276, []),
  (0, 8, []),
  (2, 0, [some 1, some 38, some 39]),
  (0, 4416, []),
  (0, 276, []),
  (9, 0, [some 1, some 33, none, none, none, none]),
  (7, 0, [some 1, some 42, some 43, some ln, none, none, none]),
  (0, 24, []),
  (0, 24, []),
  (0, 1, []),
  (4, 0, [some 1, some 37, some 46, none, none, none, none, none]),
  (0, 64, []),
  (8, 0, [some 1, some 37, some 48, none]),
  (0, 24, []),
  (6, 0, [some 50, some 55, some 56, some 57, none, none, none, none, none, none]),
  (5, 0, [some 51, some 52, some 53, some 54, none]),
  (0, 400, []),
  (0, 16, []),
  (1, 16, []),
  (0, 32, []),
  (0, 401, []),
  (0, 401, []),
  (0, 401, []),
  (0, 400, []),
  (0, 40, []),
  (12, 0, [none, none, none, some 61, some 62, some 63, some 64, some 65, some 66, some 67, some 68, none, some 69, some 70, none, some 71, some 72, none, none, none, none, none, some 73, none, some 74, some 75, some 76, some 77, some 78, none, none, some 79, none, none, none, none, none, some 80, some 81, some 82, some 83, none, some 84, some 85, some 86, none, none, none, some 87]),
  (0, 24, []),
  (0, 24, []),
  (0, 3, []),
  (0, 3, []),
  (0, 360, []),
  (0, 256, []),
  (0, 64, []),
  (0, 64, []),
  (0, 20, []),
  (0, 20, []),
  (0, 40, []),
  (0, 400, []),
  (0, 69, []),
  (0, 32, []),
  (0, 32, []),
  (0, 32, []),
  (0, 800, []),
  (0, 800, []),
  (0, 40, []),
  (0, 8, []),
  (0, 420, []),
  (0, 64, []),
  (0, 64, []),
  (0, 4096, []),
  (0, 24, []),
  (0, 24, []),
  (0, 1800, [])] ++ ext
theorem k_0 (ln : Nat) (ext : ot_L) : (LL ln ext)[0]? = some (11, 0, [some 1, some 17, none, some 33, some 40, some 41, some 45, some 47, some 49, some 58, none, none, none, some 59, none]) := rfl
theorem k_1 (ln : Nat) (ext : ot_L) : (LL ln ext)[1]? = some (10, 0, [some 2, some 3, some 4, some 5, some 6, some 7, some 8, some 9, some 10, some 11, some 12, none, none, none]) := rfl
theorem k_2 (ln : Nat) (ext : ot_L) : (LL ln ext)[2]? = some (0, 24, []) := rfl
theorem k_3 (ln : Nat) (ext : ot_L) : (LL ln ext)[3]? = some (0, 24, []) := rfl
theorem k_4 (ln : Nat) (ext : ot_L) : (LL ln ext)[4]? = some (0, 256, []) := rfl
theorem k_5 (ln : Nat) (ext : ot_L) : (LL ln ext)[5]? = some (0, 64, []) := rfl
theorem k_6 (ln : Nat) (ext : ot_L) : (LL ln ext)[6]? = some (0, 3, []) := rfl
theorem k_7 (ln : Nat) (ext : ot_L) : (LL ln ext)[7]? = some (0, 360, []) := rfl
theorem k_8 (ln : Nat) (ext : ot_L) : (LL ln ext)[8]? = some (0, 3, []) := rfl
theorem k_9 (ln : Nat) (ext : ot_L) : (LL ln ext)[9]? = some (0, 20, []) := rfl
theorem k_10 (ln : Nat) (ext : ot_L) : (LL ln ext)[10]? = some (0, 20, []) := rfl
theorem k_11 (ln : Nat) (ext : ot_L) : (LL ln ext)[11]? = some (0, 64, []) := rfl
theorem k_12 (ln : Nat) (ext : ot_L) : (LL ln ext)[12]? = some (5, 0, [some 13, some 14, some 15, some 16, none]) := rfl
theorem k_13 (ln : Nat) (ext : ot_L) : (LL ln ext)[13]? = some (0, 400, []) := rfl
theorem k_14 (ln : Nat) (ext : ot_L) : (LL ln ext)[14]? = some (0, 16, []) := rfl
theorem k_15 (ln : Nat) (ext : ot_L) : (LL ln ext)[15]? = some (1, 16, []) := rfl
theorem k_16 (ln : Nat) (ext : ot_L) : (LL ln ext)[16]? = some (0, 32, []) := rfl
theorem k_17 (ln : Nat) (ext : ot_L) : (LL ln ext)[17]? = some (10, 0, [some 18, some 19, some 20, some 21, some 22, some 23, some 24, some 25, some 26, some 27, some 28, none, none, none]) := rfl
theorem k_18 (ln : Nat) (ext : ot_L) : (LL ln ext)[18]? = some (0, 24, []) := rfl
theorem k_19 (ln : Nat) (ext : ot_L) : (LL ln ext)[19]? = some (0, 24, []) := rfl
theorem k_20 (ln : Nat) (ext : ot_L) : (LL ln ext)[20]? = some (0, 256, []) := rfl
theorem k_21 (ln : Nat) (ext : ot_L) : (LL ln ext)[21]? = some (0, 64, []) := rfl
theorem k_22 (ln : Nat) (ext : ot_L) : (LL ln ext)[22]? = some (0, 3, []) := rfl
theorem k_23 (ln : Nat) (ext : ot_L) : (LL ln ext)[23]? = some (0, 360, []) := rfl
theorem k_24 (ln : Nat) (ext : ot_L) : (LL ln ext)[24]? = some (0, 3, []) := rfl
theorem k_25 (ln : Nat) (ext : ot_L) : (LL ln ext)[25]? = some (0, 20, []) := rfl
theorem k_26 (ln : Nat) (ext : ot_L) : (LL ln ext)[26]? = some (0, 20, []) := rfl
theorem k_27 (ln : Nat) (ext : ot_L) : (LL ln ext)[27]? = some (0, 64, []) := rfl
theorem k_28 (ln : Nat) (ext : ot_L) : (LL ln ext)[28]? = some (5, 0, [some 29, some 30, some 31, some 32, none]) := rfl
theorem k_29 (ln : Nat) (ext : ot_L) : (LL ln ext)[29]? = some (0, 400, []) := rfl
theorem k_30 (ln : Nat) (ext : ot_L) : (LL ln ext)[30]? = some (0, 16, []) := rfl
theorem k_31 (ln : Nat) (ext : ot_L) : (LL ln ext)[31]? = some (1, 16, []) := rfl
theorem k_32 (ln : Nat) (ext : ot_L) : (LL ln ext)[32]? = some (0, 32, []) := rfl
theorem k_33 (ln : Nat) (ext : ot_L) : (LL ln ext)[33]? = some (3, 0, [some 1, some 37, some 34, some 35, some 36]) := rfl
theorem k_34 (ln : Nat) (ext : ot_L) : (LL ln ext)[34]? = some (0, 64, []) := rfl
theorem k_35 (ln : Nat) (ext : ot_L) : (LL ln ext)[35]? = some (0, 276, []) := rfl
theorem k_36 (ln : Nat) (ext : ot_L) : (LL ln ext)[36]? = some (0, 8, []) := rfl
theorem k_37 (ln : Nat) (ext : ot_L) : (LL ln ext)[37]? = some (2, 0, [some 1, some 38, some 39]) := rfl
theorem k_38 (ln : Nat) (ext : ot_L) : (LL ln ext)[38]? = some (0, 4416, []) := rfl
theorem k_39 (ln : Nat) (ext : ot_L) : (LL ln ext)[39]? = some (0, 276, []) := rfl
theorem k_40 (ln : Nat) (ext : ot_L) : (LL ln ext)[40]? = some (9, 0, [some 1, some 33, none, none, none, none]) := rfl
theorem k_41 (ln : Nat) (ext : ot_L) : (LL ln ext)[41]? = some (7, 0, [some 1, some 42, some 43, some ln, none, none, none]) := rfl
theorem k_42 (ln : Nat) (ext : ot_L) : (LL ln ext)[42]? = some (0, 24, []) := rfl
theorem k_43 (ln : Nat) (ext : ot_L) : (LL ln ext)[43]? = some (0, 24, []) := rfl
theorem k_44 (ln : Nat) (ext : ot_L) : (LL ln ext)[44]? = some (0, 1, []) := rfl
theorem k_45 (ln : Nat) (ext : ot_L) : (LL ln ext)[45]? = some (4, 0, [some 1, some 37, some 46, none, none, none, none, none]) := rfl
theorem k_46 (ln : Nat) (ext : ot_L) : (LL ln ext)[46]? = some (0, 64, []) := rfl
theorem k_47 (ln : Nat) (ext : ot_L) : (LL ln ext)[47]? = some (8, 0, [some 1, some 37, some 48, none]) := rfl
theorem k_48 (ln : Nat) (ext : ot_L) : (LL ln ext)[48]? = some (0, 24, []) := rfl
theorem k_49 (ln : Nat) (ext : ot_L) : (LL ln ext)[49]? = some (6, 0, [some 50, some 55, some 56, some 57, none, none, none, none, none, none]) := rfl
theorem k_50 (ln : Nat) (ext : ot_L) : (LL ln ext)[50]? = some (5, 0, [some 51, some 52, some 53, some 54, none]) := rfl
theorem k_51 (ln : Nat) (ext : ot_L) : (LL ln ext)[51]? = some (0, 400, []) := rfl
theorem k_52 (ln : Nat) (ext : ot_L) : (LL ln ext)[52]? = some (0, 16, []) := rfl
theorem k_53 (ln : Nat) (ext : ot_L) : (LL ln ext)[53]? = some (1, 16, []) := rfl
theorem k_54 (ln : Nat) (ext : ot_L) : (LL ln ext)[54]? = some (0, 32, []) := rfl
theorem k_55 (ln : Nat) (ext : ot_L) : (LL ln ext)[55]? = some (0, 401, []) := rfl
theorem k_56 (ln : Nat) (ext : ot_L) : (LL ln ext)[56]? = some (0, 401, []) := rfl
theorem k_57 (ln : Nat) (ext : ot_L) : (LL ln ext)[57]? = some (0, 401, []) := rfl
theorem k_58 (ln : Nat) (ext : ot_L) : (LL ln ext)[58]? = some (0, 400, []) := rfl
theorem k_59 (ln : Nat) (ext : ot_L) : (LL ln ext)[59]? = some (0, 40, []) := rfl
theorem k_60 (ln : Nat) (ext : ot_L) : (LL ln ext)[60]? = some (12, 0, [none, none, none, some 61, some 62, some 63, some 64, some 65, some 66, some 67, some 68, none, some 69, some 70, none, some 71, some 72, none, none, none, none, none, some 73, none, some 74, some 75, some 76, some 77, some 78, none, none, some 79, none, none, none, none, none, some 80, some 81, some 82, some 83, none, some 84, some 85, some 86, none, none, none, some 87]) := rfl
theorem k_61 (ln : Nat) (ext : ot_L) : (LL ln ext)[61]? = some (0, 24, []) := rfl
theorem k_62 (ln : Nat) (ext : ot_L) : (LL ln ext)[62]? = some (0, 24, []) := rfl
theorem k_63 (ln : Nat) (ext : ot_L) : (LL ln ext)[63]? = some (0, 3, []) := rfl
theorem k_64 (ln : Nat) (ext : ot_L) : (LL ln ext)[64]? = some (0, 3, []) := rfl
theorem k_65 (ln : Nat) (ext : ot_L) : (LL ln ext)[65]? = some (0, 360, []) := rfl
theorem k_66 (ln : Nat) (ext : ot_L) : (LL ln ext)[66]? = some (0, 256, []) := rfl
theorem k_67 (ln : Nat) (ext : ot_L) : (LL ln ext)[67]? = some (0, 64, []) := rfl
theorem k_68 (ln : Nat) (ext : ot_L) : (LL ln ext)[68]? = some (0, 64, []) := rfl
theorem k_69 (ln : Nat) (ext : ot_L) : (LL ln ext)[69]? = some (0, 20, []) := rfl
theorem k_70 (ln : Nat) (ext : ot_L) : (LL ln ext)[70]? = some (0, 20, []) := rfl
theorem k_71 (ln : Nat) (ext : ot_L) : (LL ln ext)[71]? = some (0, 40, []) := rfl
theorem k_72 (ln : Nat) (ext : ot_L) : (LL ln ext)[72]? = some (0, 400, []) := rfl
theorem k_73 (ln : Nat) (ext : ot_L) : (LL ln ext)[73]? = some (0, 69, []) := rfl
theorem k_74 (ln : Nat) (ext : ot_L) : (LL ln ext)[74]? = some (0, 32, []) := rfl
theorem k_75 (ln : Nat) (ext : ot_L) : (LL ln ext)[75]? = some (0, 32, []) := rfl
theorem k_76 (ln : Nat) (ext : ot_L) : (LL ln ext)[76]? = some (0, 32, []) := rfl
theorem k_77 (ln : Nat) (ext : ot_L) : (LL ln ext)[77]? = some (0, 800, []) := rfl
theorem k_78 (ln : Nat) (ext : ot_L) : (LL ln ext)[78]? = some (0, 800, []) := rfl
theorem k_79 (ln : Nat) (ext : ot_L) : (LL ln ext)[79]? = some (0, 40, []) := rfl
theorem k_80 (ln : Nat) (ext : ot_L) : (LL ln ext)[80]? = some (0, 8, []) := rfl
theorem k_81 (ln : Nat) (ext : ot_L) : (LL ln ext)[81]? = some (0, 420, []) := rfl
theorem k_82 (ln : Nat) (ext : ot_L) : (LL ln ext)[82]? = some (0, 64, []) := rfl
theorem k_83 (ln : Nat) (ext : ot_L) : (LL ln ext)[83]? = some (0, 64, []) := rfl
theorem k_84 (ln : Nat) (ext : ot_L) : (LL ln ext)[84]? = some (0, 4096, []) := rfl
theorem k_85 (ln : Nat) (ext : ot_L) : (LL ln ext)[85]? = some (0, 24, []) := rfl
theorem k_86 (ln : Nat) (ext : ot_L) : (LL ln ext)[86]? = some (0, 24, []) := rfl
theorem k_87 (ln : Nat) (ext : ot_L) : (LL ln ext)[87]? = some (0, 1800, []) := rfl
theorem ot_nop {μ : ot_M} {k : Nat} {i v : Int} (h : μ k i = v) : ot_up μ k i v = μ := by
  funext k' j
  by_cases h1 : k' = k
  · subst h1
    by_cases h2 : j = i
    · subst h2; simp [ot_up, h]
    · simp [ot_up, h2]
  · simp [ot_up, h1]
theorem ot_rd {μ : ot_M} {k k' : Nat} {i v j : Int} (h : k' ≠ k) : ot_up μ k i v k' j = μ k' j := by simp [ot_up, h]
theorem ot_rs {μ : ot_M} {k : Nat} {i v : Int} : ot_up μ k i v k i = v := by simp [ot_up]
theorem ot_rf {μ : ot_M} {k : Nat} {i v j : Int} (h : j ≠ i) : ot_up μ k i v k j = μ k j := by simp [ot_up, h]
theorem ot_rc {μ : ot_M} {k k' : Nat} {i v : Int} (h : k' ≠ k) : ot_up μ k i v k' = μ k' := by funext j; simp [ot_up, h]
theorem ot_ri {μ : ot_M} {k : Nat} {i v j : Int} : ot_up μ k i v k j = if j = i then v else μ k j := by simp [ot_up]
section OT4
variable {p : Program} {l : Launch} {e : Env} {R : Room} {s : State} {m : MethodId} {args : Array Value} {below : List Frame} {meth : Method} {c : Code} {g : ot_G} {nL cells slots mc ms : Nat} {Q : State → Prop} {cc : ByteArray} {own : String}
variable {L : ot_L} {μ : ot_M} {pc : Nat} {lv : List (Nat × ot_V)} {st : List ot_V} {Pf : Option Int → ot_L → ot_M → Prop} {post : Int → ot_L → ot_M → Prop} {postv : ot_L → ot_M → Prop}
theorem tt_vi (X : ot_X p s m args c g cc nL own) {y : MethodName} {cc1 : ByteArray} {ret : Option FieldType} {idx n1 na d d1 mc0 ms0 mc1 ms1 k0 cn n : Nat} {rs : List (Option Nat)} {as st0 : List ot_V} (hR : R = ot_rm d mc0 ms0) (hm : ot_MV own idx y cc1 n1 ret na) (hC : ot_C l g y cc1 n1 ret d1 mc1 ms1 (.inr k0 :: as) L μ (ot_pi post)) (hk : L[k0]? = some (cn + 2, n, rs)) (hq : ∃ q : vw_C, ot_cl[cn]? = some q ∧ q.1 = y.cls) (hst : st0 = as.reverse ++ .inr k0 :: st) (hn : as.length = na) (h8 : st.length ≤ 8) (hdd : d1 + 1 ≤ d) (hmc : cells + mc1 ≤ mc0) (hms : slots + ms1 ≤ ms0) (hd : decode cc pc = .ok (.invokevirtual idx, 3))
    (k : ∀ (z : Int) (L2 : ot_L) (μ2 : ot_M), post z L2 μ2 → ot_T p l e R s m args below meth c g nL (cells + mc1) (slots + ms1) Q L2 μ2 (pc + 3) lv (.inl z :: st)) : ot_T p l e R s m args below meth c g nL cells slots Q L μ pc lv st0 :=
  tt_callV X hR hm hC hk hq hst hn h8 hdd hmc hms hd (fun _ L2 μ2 hp => by obtain ⟨z, rfl, hp⟩ := hp; exact k z L2 μ2 hp)
theorem tt_vv (X : ot_X p s m args c g cc nL own) {y : MethodName} {cc1 : ByteArray} {ret : Option FieldType} {idx n1 na d d1 mc0 ms0 mc1 ms1 k0 cn n : Nat} {rs : List (Option Nat)} {as st0 : List ot_V} (hR : R = ot_rm d mc0 ms0) (hm : ot_MV own idx y cc1 n1 ret na) (hC : ot_C l g y cc1 n1 ret d1 mc1 ms1 (.inr k0 :: as) L μ (ot_pv postv)) (hk : L[k0]? = some (cn + 2, n, rs)) (hq : ∃ q : vw_C, ot_cl[cn]? = some q ∧ q.1 = y.cls) (hst : st0 = as.reverse ++ .inr k0 :: st) (hn : as.length = na) (h8 : st.length ≤ 8) (hdd : d1 + 1 ≤ d) (hmc : cells + mc1 ≤ mc0) (hms : slots + ms1 ≤ ms0) (hd : decode cc pc = .ok (.invokevirtual idx, 3))
    (k : ∀ (L2 : ot_L) (μ2 : ot_M), postv L2 μ2 → ot_T p l e R s m args below meth c g nL (cells + mc1) (slots + ms1) Q L2 μ2 (pc + 3) lv st) : ot_T p l e R s m args below meth c g nL cells slots Q L μ pc lv st0 :=
  tt_callV X hR hm hC hk hq hst hn h8 hdd hmc hms hd (fun _ L2 μ2 hp => by obtain ⟨rfl, hp⟩ := hp; exact k L2 μ2 hp)
theorem tt_si (X : ot_X p s m args c g cc nL own) {y : MethodName} {cc1 : ByteArray} {ret : Option FieldType} {idx n1 na d d1 mc0 ms0 mc1 ms1 : Nat} {as st0 : List ot_V} (hR : R = ot_rm d mc0 ms0) (hm : ot_MS own idx y cc1 n1 ret na) (hC : ot_C l g y cc1 n1 ret d1 mc1 ms1 as L μ (ot_pi post)) (hst : st0 = as.reverse ++ st) (hn : as.length = na) (h8 : st.length ≤ 8) (hdd : d1 + 1 ≤ d) (hmc : cells + mc1 ≤ mc0) (hms : slots + ms1 ≤ ms0) (hd : decode cc pc = .ok (.invokestatic idx, 3))
    (k : ∀ (z : Int) (L2 : ot_L) (μ2 : ot_M), post z L2 μ2 → ot_T p l e R s m args below meth c g nL (cells + mc1) (slots + ms1) Q L2 μ2 (pc + 3) lv (.inl z :: st)) : ot_T p l e R s m args below meth c g nL cells slots Q L μ pc lv st0 :=
  tt_callS X hR hm hC hst hn h8 hdd hmc hms hd (fun _ L2 μ2 hp => by obtain ⟨z, rfl, hp⟩ := hp; exact k z L2 μ2 hp)
theorem tt_sv (X : ot_X p s m args c g cc nL own) {y : MethodName} {cc1 : ByteArray} {ret : Option FieldType} {idx n1 na d d1 mc0 ms0 mc1 ms1 : Nat} {as st0 : List ot_V} (hR : R = ot_rm d mc0 ms0) (hm : ot_MS own idx y cc1 n1 ret na) (hC : ot_C l g y cc1 n1 ret d1 mc1 ms1 as L μ (ot_pv postv)) (hst : st0 = as.reverse ++ st) (hn : as.length = na) (h8 : st.length ≤ 8) (hdd : d1 + 1 ≤ d) (hmc : cells + mc1 ≤ mc0) (hms : slots + ms1 ≤ ms0) (hd : decode cc pc = .ok (.invokestatic idx, 3))
    (k : ∀ (L2 : ot_L) (μ2 : ot_M), postv L2 μ2 → ot_T p l e R s m args below meth c g nL (cells + mc1) (slots + ms1) Q L2 μ2 (pc + 3) lv st) : ot_T p l e R s m args below meth c g nL cells slots Q L μ pc lv st0 :=
  tt_callS X hR hm hC hst hn h8 hdd hmc hms hd (fun _ L2 μ2 hp => by obtain ⟨rfl, hp⟩ := hp; exact k L2 μ2 hp)
theorem tt_nv (X : ot_X p s m args c g cc nL own) {y : MethodName} {cc1 : ByteArray} {idx n1 na d d1 mc0 ms0 mc1 ms1 k0 : Nat} {as st0 : List ot_V} (hR : R = ot_rm d mc0 ms0) (hm : ot_MN own idx y cc1 n1 na) (hC : ot_C l g y cc1 n1 none d1 mc1 ms1 (.inr k0 :: as) L μ (ot_pv postv)) (hst : st0 = as.reverse ++ .inr k0 :: st) (hn : as.length = na) (h8 : st.length ≤ 8) (hdd : d1 + 1 ≤ d) (hmc : cells + mc1 ≤ mc0) (hms : slots + ms1 ≤ ms0) (hd : decode cc pc = .ok (.invokespecial idx, 3))
    (k : ∀ (L2 : ot_L) (μ2 : ot_M), postv L2 μ2 → ot_T p l e R s m args below meth c g nL (cells + mc1) (slots + ms1) Q L2 μ2 (pc + 3) lv st) : ot_T p l e R s m args below meth c g nL cells slots Q L μ pc lv st0 :=
  tt_callI X hR hm hC hst hn h8 hdd hmc hms hd (fun _ L2 μ2 hp => by obtain ⟨rfl, hp⟩ := hp; exact k L2 μ2 hp)
/-- a loop: at its head, for every state of it -/
theorem tt_loop {α : Type} (meas : α → Nat) (Inv : α → Prop) (Mf : α → ot_M) (Vf : α → List (Nat × ot_V)) (a0 : α) (h0 : Inv a0)
    (hs : ∀ a, Inv a → (∀ b, Inv b → meas b < meas a → ot_T p l e R s m args below meth c g nL cells slots Q L (Mf b) pc (Vf b) st) → ot_T p l e R s m args below meth c g nL cells slots Q L (Mf a) pc (Vf a) st) : ot_T p l e R s m args below meth c g nL cells slots Q L (Mf a0) pc (Vf a0) st := by
  have key : ∀ (n : Nat) (a : α), meas a = n → Inv a → ot_T p l e R s m args below meth c g nL cells slots Q L (Mf a) pc (Vf a) st := by
    intro n
    induction n using Nat.strongRecOn with
    | _ n ih => exact fun a hn hI => hs a hI (fun b hb hlt => ih (meas b) (by rw [← hn]; exact hlt) b rfl hb)
  exact key _ a0 rfl h0
-- Math
theorem tt_max (X : ot_X p s m args c g cc nL own) {idx d : Nat} {x y : Int} (hR : R = ot_rm (d + 1) mc ms) (hm : ot_MS own idx Lib.Math.max.name Lib.Math.max.code 2 (some .int) 2) (hr : -2147483648 ≤ x ∧ x ≤ 2147483647 ∧ -2147483648 ≤ y ∧ y ≤ 2147483647) (h8 : st.length ≤ 8) (hc : cells ≤ mc) (hs : slots ≤ ms) (hd : decode cc pc = .ok (.invokestatic idx, 3))
    (k : ot_T p l e R s m args below meth c g nL cells slots Q L μ (pc + 3) lv (.inl (max x y) :: st)) : ot_T p l e R s m args below meth c g nL cells slots Q L μ pc lv (.inl y :: .inl x :: st) := by
  intro H locs ls hP hS hl
  subst hR
  have ok : ∀ w, w ∈ ot_ws → w.before args s = true := X.2.2.2.2.1
  refine va_mmax X.1 X.2.1 (by rw [X.2.2.1]; exact hl.1.symm) X.2.2.2.1 (ok _ (hm.1 _ (by simp))) (ok _ (hm.1 _ (by simp))) (ok (Cond.initialized "java/lang/Math") (hm.1 _ (by show _ ∈ [_, _, Cond.initialized "java/lang/Math", _]; simp))) (ok _ (hm.1 _ (by simp))) (by simp only [ot_rm]; omega) (by rw [ot_sum]; simp only [ot_rm]; omega) hc hs hd ?_
  have h := k H locs ls hP hS hl
  have e1 : ot_v g.1.size (.inl (max x y)) = .int (if Int32.ofInt x < Int32.ofInt y then Int32.ofInt y else Int32.ofInt x) := by
    show Value.int _ = _
    by_cases q : x < y
    · rw [if_pos ((ot_lt hr).mpr q), show max x y = y by omega]
    · rw [if_neg (fun z => q ((ot_lt hr).mp z)), show max x y = x by omega]
  rw [List.map_cons, e1] at h
  exact h
theorem tt_min (X : ot_X p s m args c g cc nL own) {idx d : Nat} {x y : Int} (hR : R = ot_rm (d + 1) mc ms) (hm : ot_MS own idx Lib.Math.min.name Lib.Math.min.code 2 (some .int) 2) (hr : -2147483648 ≤ x ∧ x ≤ 2147483647 ∧ -2147483648 ≤ y ∧ y ≤ 2147483647) (h8 : st.length ≤ 8) (hc : cells ≤ mc) (hs : slots ≤ ms) (hd : decode cc pc = .ok (.invokestatic idx, 3))
    (k : ot_T p l e R s m args below meth c g nL cells slots Q L μ (pc + 3) lv (.inl (min x y) :: st)) : ot_T p l e R s m args below meth c g nL cells slots Q L μ pc lv (.inl y :: .inl x :: st) := by
  intro H locs ls hP hS hl
  subst hR
  have ok : ∀ w, w ∈ ot_ws → w.before args s = true := X.2.2.2.2.1
  refine va_mmin X.1 X.2.1 (by rw [X.2.2.1]; exact hl.1.symm) X.2.2.2.1 (ok _ (hm.1 _ (by simp))) (ok _ (hm.1 _ (by simp))) (ok (Cond.initialized "java/lang/Math") (hm.1 _ (by show _ ∈ [_, _, Cond.initialized "java/lang/Math", _]; simp))) (ok _ (hm.1 _ (by simp))) (by simp only [ot_rm]; omega) (by rw [ot_sum]; simp only [ot_rm]; omega) hc hs hd ?_
  have h := k H locs ls hP hS hl
  have hr2 : -2147483648 ≤ y ∧ y ≤ 2147483647 ∧ -2147483648 ≤ x ∧ x ≤ 2147483647 := ⟨hr.2.2.1, hr.2.2.2, hr.1, hr.2.1⟩
  have e1 : ot_v g.1.size (.inl (min x y)) = .int (if Int32.ofInt y < Int32.ofInt x then Int32.ofInt y else Int32.ofInt x) := by
    show Value.int _ = _
    by_cases q : y < x
    · rw [if_pos ((ot_lt hr2).mpr q), show min x y = y by omega]
    · rw [if_neg (fun z => q ((ot_lt hr2).mp z)), show min x y = x by omega]
  rw [List.map_cons, e1] at h
  exact h
theorem tt_abs (X : ot_X p s m args c g cc nL own) {idx d : Nat} {x : Int} (hR : R = ot_rm (d + 1) mc ms) (hm : ot_MS own idx Lib.Math.abs.name Lib.Math.abs.code 1 (some .int) 1) (hr : -2147483648 < x ∧ x ≤ 2147483647) (h8 : st.length ≤ 8) (hc : cells ≤ mc) (hs : slots ≤ ms) (hd : decode cc pc = .ok (.invokestatic idx, 3))
    (k : ot_T p l e R s m args below meth c g nL cells slots Q L μ (pc + 3) lv (.inl (x.natAbs : Int) :: st)) : ot_T p l e R s m args below meth c g nL cells slots Q L μ pc lv (.inl x :: st) := by
  intro H locs ls hP hS hl
  subst hR
  have ok : ∀ w, w ∈ ot_ws → w.before args s = true := X.2.2.2.2.1
  refine va_mabs X.1 X.2.1 (by rw [X.2.2.1]; exact hl.1.symm) X.2.2.2.1 (ok _ (hm.1 _ (by simp))) (ok _ (hm.1 _ (by simp))) (ok (Cond.initialized "java/lang/Math") (hm.1 _ (by show _ ∈ [_, _, Cond.initialized "java/lang/Math", _]; simp))) (ok _ (hm.1 _ (by simp))) (by simp only [ot_rm]; omega) (by rw [ot_sum]; simp only [ot_rm]; omega) hc hs hd ?_
  have h := k H locs ls hP hS hl
  have e1 : ot_v g.1.size (.inl (x.natAbs : Int)) = .int (if 0 ≤ Int32.ofInt x then Int32.ofInt x else 0 - Int32.ofInt x) := by
    show Value.int _ = _
    rw [ot_0]
    by_cases q : 0 ≤ x
    · rw [if_pos ((ot_le ⟨by omega, by omega, by omega, by omega⟩).mpr q), show (x.natAbs : Int) = x by omega]
    · rw [if_neg (fun z => q ((ot_le ⟨by omega, by omega, by omega, by omega⟩).mp z)), ← Int32.ofInt_sub, show (x.natAbs : Int) = 0 - x by omega]
  rw [List.map_cons, e1] at h
  exact h
-- switches
theorem tt_tabOut (X : ot_X p s m args c g cc nL own) {dflt lo hi : Int} {offs : Array Int} {len : Nat} {x : Int} (tgt : Nat) (hr : -2147483648 ≤ x ∧ x ≤ 2147483647) (hd : decode cc pc = .ok (.tableswitch dflt lo hi offs, len)) (h : x < lo ∨ hi < x) (ht : (pc : Int) + dflt = (tgt : Int))
    (k : ot_T p l e R s m args below meth c g nL cells slots Q L μ tgt lv st) : ot_T p l e R s m args below meth c g nL cells slots Q L μ pc lv (.inl x :: st) := by
  intro H locs ls hP hS hl
  exact lv_tableOut X.1 X.2.1 hd (by rw [ot_bm hr.1 hr.2]; exact h) ht (k H locs ls hP hS hl)
theorem tt_tabIn (X : ot_X p s m args c g cc nL own) {dflt lo hi : Int} {offs : Array Int} {len : Nat} {x off : Int} (tgt : Nat) (hr : -2147483648 ≤ x ∧ x ≤ 2147483647) (hd : decode cc pc = .ok (.tableswitch dflt lo hi offs, len)) (h1 : lo ≤ x) (h2 : x ≤ hi) (ho : offs[(x - lo).toNat]? = some off) (ht : (pc : Int) + off = (tgt : Int))
    (k : ot_T p l e R s m args below meth c g nL cells slots Q L μ tgt lv st) : ot_T p l e R s m args below meth c g nL cells slots Q L μ pc lv (.inl x :: st) := by
  intro H locs ls hP hS hl
  exact lv_tableIn X.1 X.2.1 hd (by rw [ot_bm hr.1 hr.2]; omega) (by rw [ot_bm hr.1 hr.2]; omega) (by rw [ot_bm hr.1 hr.2]; exact ho) ht (k H locs ls hP hS hl)
theorem tt_lookup (X : ot_X p s m args c g cc nL own) {dflt : Int} {ps : Array (Int × Int)} {len : Nat} {x off : Int} (tgt : Nat) (hr : -2147483648 ≤ x ∧ x ≤ 2147483647) (hd : decode cc pc = .ok (.lookupswitch dflt ps, len)) (hp : (ps.toList.zip (ps.toList.drop 1)).all (fun (a, next) => a.1 < next.1) = true) (ho : Op.lookupswitch.offset ps.toList dflt x = off) (ht : (pc : Int) + off = (tgt : Int))
    (k : ot_T p l e R s m args below meth c g nL cells slots Q L μ tgt lv st) : ot_T p l e R s m args below meth c g nL cells slots Q L μ pc lv (.inl x :: st) := by
  intro H locs ls hP hS hl
  exact lv_lookup X.1 X.2.1 hd hp (by rw [ot_bm hr.1 hr.2]; exact ho) ht (k H locs ls hP hS hl)
theorem tt_objInit (X : ot_X p s m args c g cc nL own) {k0 idx d : Nat} (hR : R = ot_rm (d + 1) mc ms) (hm : ∀ w ∈ ([.methodLink own idx objectInit, .instanceMethod objectInit, .code objectInit ⟨#[0xb1]⟩ 1 none] : List Cond), w ∈ ot_ws) (hd : decode cc pc = .ok (.invokespecial idx, 3)) (h8 : st.length ≤ 8)
    (k : ot_T p l e R s m args below meth c g nL cells slots Q L μ (pc + 3) lv st) : ot_T p l e R s m args below meth c g nL cells slots Q L μ pc lv (.inr k0 :: st) := by
  intro H locs ls hP hS hl
  subst hR
  have ok : ∀ w, w ∈ ot_ws → w.before args s = true := X.2.2.2.2.1
  refine W.objInit X.1 X.2.1 X.2.2.2.1 (ok _ (hm _ (by simp))) (ok _ (hm _ (by simp))) (ok _ (hm _ (by simp))) rfl (by rw [X.2.2.1]; exact hl.1) rfl hd (by simp only [ot_rm]; omega) (by rw [ot_sum]; simp only [ot_rm]; show 2 * 0 + _ + 12 ≤ _; omega) ?_
  exact k H locs ls hP hS hl
end OT4


/-! what the Statement gives of texts and statics -/
theorem tb_mem {w : Cond} (i : Nat) (h : tables_1[i]? = some w) : w ∈ lw_tbl := List.mem_append_right _ (List.mem_of_getElem? h)
def tx1 : String := "may    bar    when   or     and    not    from   to     length used   thread wound  turn   shade  "
def tx2 : String := ";+-*/()<=>"
def lenS : List Nat := [98, 10]
def bytS : List (List Int32) := [wdL.map Int32.ofInt, sgL.map Int32.ofInt]
def tmS (i : Nat) : Term := if i = 0 then .string "OneThread$LawReader" 89 else .string "OneThread$LawReader" 81
theorem s_ex : ∀ i, i < 2 → Cond.exactly (tmS i) "java/lang/String" ∈ flatC (Jvm.Cond.and given_1 narrow_1) := by decide +kernel
theorem s_co : ∀ i, i < 2 → Cond.eq (.field (tmS i) "java/lang/String" "coder" "B") (.int 0) ∈ flatC (Jvm.Cond.and given_1 narrow_1) := by decide +kernel
theorem s_ar : ∀ i, i < 2 → Cond.arrayOf (.field (tmS i) "java/lang/String" "value" "[B") .byte ∈ flatC (Jvm.Cond.and given_1 narrow_1) := by decide +kernel
theorem s_le : ∀ i, i < 2 → Cond.eq (.length (.field (tmS i) "java/lang/String" "value" "[B")) (.int (Int32.ofNat (lenS.getD i 0))) ∈ flatC (Jvm.Cond.and given_1 narrow_1) := by decide +kernel
theorem s_el : ∀ i, i < 2 → ∀ j, j < lenS.getD i 0 → Cond.eq (.elem (.field (tmS i) "java/lang/String" "value" "[B") (.int (Int32.ofNat j))) (.int ((bytS.getD i []).getD j 0)) ∈ flatC (Jvm.Cond.and given_1 narrow_1) := by decide +kernel
theorem s_ne : Cond.not (Cond.eq (tmS 0) (tmS 1)) ∈ flatC (Jvm.Cond.and given_1 narrow_1) := by decide +kernel
theorem s_cs : Cond.eq (.static "java/lang/String" "COMPACT_STRINGS" "Z") (.int 1) ∈ flatC (Jvm.Cond.and given_1 narrow_1) := by decide +kernel
theorem s_si : Cond.isRef (.static "jdk/internal/util/Preconditions" "SIOOBE_FORMATTER" "Ljava/util/function/BiFunction;") ∈ flatC (Jvm.Cond.and given_1 narrow_1) := by decide +kernel
def prS (adK adV : Nat → Nat) (v : Value) (A : Nat → Prop) (U : State) (H : Heap) : Prop := vk_S 2 lenS bytS adK adV A U H ∧ va_Z "java/lang/String" "COMPACT_STRINGS" "Z" (ot_i 1) A U H ∧ va_Z "jdk/internal/util/Preconditions" "SIOOBE_FORMATTER" "Ljava/util/function/BiFunction;" v A U H ∧ vk_R RX4 89 tx1 (adK 0) U ∧ vk_R RX4 81 tx2 (adK 1) U ∧ va_Nw (.methodLinkNest RX8 44 yX3_init "OneThread") U ∧ va_Nw (.methodLinkNest RX9 66 yX4_init "OneThread") U ∧ va_Nw (.methodLinkNest RX4 11 yX3_init "OneThread") U
section PRS
variable {adK adV : Nat → Nat} {v : Value} {A : Nat → Prop} {s U : State} {H H1 : Heap}
theorem prS_warm (hW : s.WarmedH U.vm) (h : prS adK adV v A s H) : prS adK adV v A U H := ⟨vk_S.moved hW.alike h.1, va_Z.moved hW.alike h.2.1, va_Z.moved hW.alike h.2.2.1, vk_R.warm hW h.2.2.2.1, vk_R.warm hW h.2.2.2.2.1, va_Nw.warmM hW h.2.2.2.2.2.1, va_Nw.warmM hW h.2.2.2.2.2.2.1, va_Nw.warmM hW h.2.2.2.2.2.2.2⟩
theorem prS_same (e : U.vm = s.vm) (h : prS adK adV v A s H) : prS adK adV v A U H := by
  have ha : s.vm.Alike U.vm := by rw [e]; exact Vm.Alike.refl _
  exact ⟨vk_S.moved ha h.1, va_Z.moved ha h.2.1, va_Z.moved ha h.2.2.1, vk_R.same e h.2.2.2.1, vk_R.same e h.2.2.2.2.1, va_Nw.same rfl e.symm h.2.2.2.2.2.1, va_Nw.same rfl e.symm h.2.2.2.2.2.2.1, va_Nw.same rfl e.symm h.2.2.2.2.2.2.2⟩
theorem prS_kept (hq : ∀ a : Nat, a < H.size → ¬ A a → H1[a]? = H[a]?) (h : prS adK adV v A U H) : prS adK adV v A U H1 := ⟨h.1.kept hq, h.2.1.kept hq, h.2.2.1.kept hq, h.2.2.2⟩
end PRS
theorem gS (w : List Int) (j : Nat) : (w.map Int32.ofInt).getD j 0 = Int32.ofInt (w.getD j 0) := by
  rw [List.getD_eq_getElem?_getD, List.getD_eq_getElem?_getD, List.getElem?_map]
  cases w[j]? <;> rfl
theorem wd_r (j : Nat) : 0 ≤ wdL.getD j 0 ∧ wdL.getD j 0 ≤ 127 := by
  have h : ∀ j, j < 98 → 0 ≤ wdL.getD j 0 ∧ wdL.getD j 0 ≤ 127 := by decide +kernel
  by_cases w : j < 98
  · exact h j w
  · rw [List.getD_eq_getElem?_getD, List.getElem?_eq_none (show wdL.length ≤ j by show 98 ≤ j; omega)]
    decide
theorem sg_r (j : Nat) : 0 ≤ sgL.getD j 0 ∧ sgL.getD j 0 ≤ 127 := by
  have h : ∀ j, j < 10 → 0 ≤ sgL.getD j 0 ∧ sgL.getD j 0 ≤ 127 := by decide +kernel
  by_cases w : j < 10
  · exact h j w
  · rw [List.getD_eq_getElem?_getD, List.getElem?_eq_none (show sgL.length ≤ j by show 10 ≤ j; omega)]
    decide
theorem prS_gz {H : Heap} {D : va_G} {cI cB : ClassId} {adK adV : Nat → Nat} {v : Value} (hv : v.category = 1) : ot_gz (H, D, cI, cB, prS adK adV v (fun q => H.size ≤ q)) := by
  have eT0 : (fun j => Value.int ((bytS.getD 0 []).getD j 0)) = (fun j => ot_i (wdL.getD j 0)) := by
    funext j
    show Value.int ((wdL.map Int32.ofInt).getD j 0) = Value.int (Int32.ofInt (wdL.getD j 0))
    rw [gS]
  have eT1 : (fun j => Value.int ((bytS.getD 1 []).getD j 0)) = (fun j => ot_i (sgL.getD j 0)) := by
    funext j
    show Value.int ((sgL.map Int32.ofInt).getD j 0) = Value.int (Int32.ofInt (sgL.getD j 0))
    rw [gS]
  refine ⟨⟨fun U h => h.2.1, v, hv, fun U h => h.2.2.1⟩, ⟨adK 0, adV 0, tx1, ⟨fun U h => (h.1.1 0 (by decide)).1, fun U h => (h.1.1 0 (by decide)).2.1, fun U h => (h.1.1 0 (by decide)).2.2.1, fun U h => ?_, by decide, wd_r⟩, fun U h => h.2.2.2.1⟩, ⟨adK 1, adV 1, tx2, ⟨fun U h => (h.1.1 1 (by decide)).1, fun U h => (h.1.1 1 (by decide)).2.1, fun U h => (h.1.1 1 (by decide)).2.2.1, fun U h => ?_, by decide, sg_r⟩, fun U h => h.2.2.2.2.1⟩⟩
  · have h4 := (h.1.1 0 (by decide)).2.2.2
    rw [eT0] at h4
    exact h4
  · have h4 := (h.1.1 1 (by decide)).2.2.2
    rw [eT1] at h4
    exact h4
set_option maxRecDepth 100000 in
set_option maxHeartbeats 4000000 in
/-- from the entry, for every script of at most 3072 ints, the law comes to its end with true -/
theorem whole_start {p : Program} {e : Env} {s : State} {m : MethodId} {below : List Frame} {meth : Method} {c : Code} (l : Launch) {b L : Nat} {xs : Nat → Int32} (hL : L ≤ 3072) (C0 : lw_At p s m meth c b L xs) : W p l e room_1 s m #[Value.ref b] below meth c s.heap [] 0 0 (lw_Z below #[Value.ref b] s) (entryFrame m ([Value.ref b] : List Value).toArray 4) := by
  obtain ⟨hx, hb, hr, hml, hown, hts, hX, hbl, hlocks, hgv⟩ := id C0
  have hs := flat_of_before _ hgv
  have hA : ∀ a : Nat, a < s.heap.size → ¬ (fun q : Nat => s.heap.size ≤ q) a := fun a ha hq => absurd ha (Nat.not_lt.mpr hq)
  have hws : ∀ w ∈ ot_ws, w.before #[Value.ref b] s = true := fun w hw => hts w (List.mem_filter.mp hw).1
  obtain ⟨c0, i0, k0⟩ := u_known (C := RX0) (T := TX0) (N := 3) (n := 3) hws kw_0 (hts _ (tb_mem 158 (by decide +kernel)))
  obtain ⟨c1, i1, k1⟩ := u_known (C := RX1) (T := TX1) (N := 5) (n := 5) hws kw_1 (hts _ (tb_mem 152 (by decide +kernel)))
  obtain ⟨c2, i2, k2⟩ := u_known (C := RX2) (T := TX2) (N := 8) (n := 8) hws kw_2 (hts _ (tb_mem 253 (by decide +kernel)))
  obtain ⟨c3, i3, k3⟩ := u_known (C := RX3) (T := TX3) (N := 5) (n := 5) hws kw_3 (hts _ (tb_mem 36 (by decide +kernel)))
  obtain ⟨c4, i4, k4⟩ := u_known (C := RX4) (T := TX4) (N := 10) (n := 10) hws kw_4 (hts _ (tb_mem 307 (by decide +kernel)))
  obtain ⟨c5, i5, k5⟩ := u_known (C := RX5) (T := TX5) (N := 7) (n := 7) hws kw_5 (hts _ (tb_mem 222 (by decide +kernel)))
  obtain ⟨c6, i6, k6⟩ := u_known (C := RX6) (T := TX6) (N := 4) (n := 4) hws kw_6 (hts _ (tb_mem 287 (by decide +kernel)))
  obtain ⟨c7, i7, k7⟩ := u_known (C := RX7) (T := TX7) (N := 6) (n := 6) hws kw_7 (hts _ (tb_mem 193 (by decide +kernel)))
  obtain ⟨c8, i8, k8⟩ := u_known (C := RX8) (T := TX8) (N := 14) (n := 14) hws kw_8 (hts _ (tb_mem 30 (by decide +kernel)))
  obtain ⟨c9, i9, k9⟩ := u_known (C := RX9) (T := TX9) (N := 15) (n := 15) hws kw_9 (hts _ (tb_mem 22 (by decide +kernel)))
  obtain ⟨c10, i10, k10⟩ := u_known (C := RX10) (T := TX10) (N := 49) (n := 49) hws kw_10 (hts _ (tb_mem 996 (by decide +kernel)))
  obtain ⟨dC, dI, hKc⟩ : ∃ (dC : Nat → ClassId) (dI : Nat → Nat → Nat), ∀ (k : Nat) (q : vw_C), ot_cl[k]? = some q → u_Kn s q.1 q.2.1 q.2.2 (dC k) (dI k) := by
    refine ⟨fun k => match k with | 0 => c0 | 1 => c1 | 2 => c2 | 3 => c3 | 4 => c4 | 5 => c5 | 6 => c6 | 7 => c7 | 8 => c8 | 9 => c9 | _ => c10, fun k => match k with | 0 => i0 | 1 => i1 | 2 => i2 | 3 => i3 | 4 => i4 | 5 => i5 | 6 => i6 | 7 => i7 | 8 => i8 | 9 => i9 | _ => i10, ?_⟩
    intro k q hq
    match k, hq with
    | 0, hq => cases hq; exact k0
    | 1, hq => cases hq; exact k1
    | 2, hq => cases hq; exact k2
    | 3, hq => cases hq; exact k3
    | 4, hq => cases hq; exact k4
    | 5, hq => cases hq; exact k5
    | 6, hq => cases hq; exact k6
    | 7, hq => cases hq; exact k7
    | 8, hq => cases hq; exact k8
    | 9, hq => cases hq; exact k9
    | 10, hq => cases hq; exact k10
    | k + 11, hq => simp [ot_cl] at hq
  obtain ⟨cI, kI, pI, a1, a2, a3⟩ := Cond.arrayClass_spec (hts (.arrayClass .int) (tb_mem 64 (by decide +kernel)))
  obtain ⟨cB, kB, pB, b1, b2, b3⟩ := Cond.arrayClass_spec (hts (.arrayClass .boolean) (tb_mem 65 (by decide +kernel)))
  obtain ⟨adK, adV, hS2, hEv⟩ := vk_Sof (args := #[Value.ref b]) (s := s) (N := 2) (tm := tmS) (len := lenS) (byt := bytS) (A := fun q : Nat => s.heap.size ≤ q) (by decide) (fun i hi => hs _ (s_ex i hi)) (fun i hi => hs _ (s_co i hi)) (fun i hi => hs _ (s_ar i hi)) (fun i hi => hs _ (s_le i hi)) (fun i hi j hj => hs _ (s_el i hi j hj)) (fun i j hi hj hij => by
    rcases (show i = 0 ∨ i = 1 by omega) with rfl | rfl
    · rw [show j = 1 by omega]; exact Or.inl (hs _ s_ne)
    · rw [show j = 0 by omega]; exact Or.inr (hs _ s_ne)) hA
  have hZc : va_Z "java/lang/String" "COMPACT_STRINGS" "Z" (ot_i 1) (fun q : Nat => s.heap.size ≤ q) s s.heap := va_Zof (hts _ (tb_mem 597 (by decide +kernel))) (hts _ (tb_mem 15 (by decide +kernel))) (va_eqi (hs _ s_cs)) hA
  obtain ⟨v, hv, hZv⟩ : ∃ v : Value, v.category = 1 ∧ va_Z "jdk/internal/util/Preconditions" "SIOOBE_FORMATTER" "Ljava/util/function/BiFunction;" v (fun q : Nat => s.heap.size ≤ q) s s.heap := by
    rcases va_Zqof (A := fun q : Nat => s.heap.size ≤ q) (hts _ (tb_mem 605 (by decide +kernel))) (hts _ (tb_mem 17 (by decide +kernel))) (hs _ s_si) hA with hz | ⟨t, hz⟩
    · exact ⟨_, rfl, hz⟩
    · exact ⟨_, rfl, hz⟩
  have hPr : prS adK adV v (fun q : Nat => s.heap.size ≤ q) s s.heap := by
    refine ⟨hS2, hZc, hZv, ?_, ?_, ?_, ?_, ?_⟩
    · exact vk_R.of (hts _ (tb_mem 587 (by decide +kernel))) (hEv 0 (by decide))
    · exact vk_R.of (hts _ (tb_mem 638 (by decide +kernel))) (hEv 1 (by decide))
    · exact va_Nw.of rfl (hts _ (tb_mem 37 (by decide +kernel)))
    · exact va_Nw.of rfl (hts _ (tb_mem 308 (by decide +kernel)))
    · exact va_Nw.of rfl (hts _ (tb_mem 313 (by decide +kernel)))
  have hJ : ot_J (s.heap, (dC, dI), cI, cB, prS adK adV v (fun q : Nat => s.heap.size ≤ q)) := ⟨fun s1 U H hW h => prS_warm hW h, fun s1 U H e h => prS_same e h, fun U H H1 hq h => prS_kept (fun a _ ha => hq a (by show a < s.heap.size; exact Nat.not_le.mp ha)) h⟩
  have hK : va_K (dC, dI) ot_cl [(cI, .int), (cB, .boolean)] s := by
    refine ⟨hKc, fun k q hq => ?_⟩
    match k, hq with
    | 0, hq => cases hq; exact ⟨fun n z => ⟨fun k h => (by cases h), kI, a2, pI, a3⟩, a1⟩
    | 1, hq => cases hq; exact ⟨fun n z => ⟨fun k h => (by cases h), kB, b2, pB, b3⟩, b1⟩
    | k + 2, hq => simp at hq
  have hlw : lwX p s m meth c (s.heap, (dC, dI), cI, cB, prS adK adV v (fun q : Nat => s.heap.size ≤ q)) b L xs := ⟨⟨hx, hb, hml, hown, hws, ⟨hK, hPr⟩, Nat.le_refl _, hJ⟩, hX, hbl, rfl, hL⟩
  have hl := lv_entry ([.ref b]) (n := 4) (Nat.le_of_ble_eq_true rfl)
  rw [lg_entry_eq]
  generalize (lg_sl ([.ref b]) ++ List.replicate (4 - (lg_sl ([.ref b])).length) Slot.unset).toArray = ls at hl ⊢
  have hl : lv_has ls 4 [(0, .ref b)] := hl
  have hT := law_start (l := l) (e := e) (below := below) hlw (prS_gz hv) hr hlocks (fun U h => h.2.2.2.2.2.1) (fun U h => h.2.2.2.2.2.2.1) (fun U h => h.2.2.2.2.2.2.2)
  refine hT s.heap [] ls ⟨fun k q hq => ?_, ?_, fun q hq => rfl⟩ va_S.rf ⟨hl.1, hl.2.1, fun k w hw => ?_⟩
  · simp [ot_w] at hq
  · rfl
  · unfold ot_lgv at hw
    split at hw
    · rename_i h0
      cases hw
      simp only at h0
      rw [← h0]
      exact ⟨rfl, hl.2.2 (0, .ref b) List.mem_cons_self⟩
    · cases hw

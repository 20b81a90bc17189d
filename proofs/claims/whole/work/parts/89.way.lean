/-- the least number for which it holds -/
def lsN (P : Nat → Bool) : Nat → Nat
  | 0 => 0
  | n + 1 => if lsN P n < n then lsN P n else if P n then n else n + 1
theorem lsN_none {P : Nat → Bool} : ∀ n, (∀ i, i < n → P i = false) → lsN P n = n
  | 0, _ => rfl
  | n + 1, h => by
    show (if lsN P n < n then lsN P n else if P n then n else n + 1) = n + 1
    rw [lsN_none n (fun i hi => h i (by omega)), if_neg (by omega), h n (by omega)]
    rfl
theorem lsN_eq {P : Nat → Bool} {b : Nat} (hb : P b = true) (hl : ∀ i, i < b → P i = false) : ∀ n, b < n → lsN P n = b
  | 0, h => by omega
  | n + 1, h => by
    show (if lsN P n < n then lsN P n else if P n then n else n + 1) = b
    by_cases e : b = n
    · subst e
      rw [lsN_none b hl, if_neg (by omega), if_pos hb]
    · have := lsN_eq hb hl n (by omega)
      rw [this, if_pos (by omega)]
theorem least_ex {P : Nat → Bool} : ∀ n b, b < n → P b = true → ∃ c, c ≤ b ∧ P c = true ∧ ∀ i, i < c → P i = false
  | 0, b, h, _ => by omega
  | n + 1, b, h, hb => by
    by_cases w : ∃ c, c < b ∧ P c = true
    · obtain ⟨c, h1, h2⟩ := w
      obtain ⟨d, h3, h4, h5⟩ := least_ex n c (by omega) h2
      exact ⟨d, by omega, h4, h5⟩
    · refine ⟨b, Nat.le_refl _, hb, fun i hi => ?_⟩
      rw [Bool.eq_false_iff]
      exact fun q => w ⟨i, hi, q⟩
theorem lsN_spec {P : Nat → Bool} {n b : Nat} (h : b < n) (hb : P b = true) : lsN P n ≤ b ∧ P (lsN P n) = true ∧ ∀ i, i < lsN P n → P i = false := by
  obtain ⟨c, h1, h2, h3⟩ := least_ex n b h hb
  rw [lsN_eq h2 h3 n (by omega)]
  exact ⟨h1, h2, h3⟩
def stB (J : Nat → Nat) (a b : Nat) : Bool := (J a).testBit b && hgB (flp J a b) b
def stp (J : Nat → Nat) (a : Nat) : Nat := lsN (stB J a) 24
def wyN (J : Nat → Nat) (a : Nat) : Nat → Nat × (Nat → Nat)
  | 0 => (a, J)
  | k + 1 => (stp (wyN J a k).2 (wyN J a k).1, flp (wyN J a k).2 (wyN J a k).1 (stp (wyN J a k).2 (wyN J a k).1))
theorem wyN_s (J : Nat → Nat) (a k : Nat) : wyN J a (k + 1) = (stp (wyN J a k).2 (wyN J a k).1, flp (wyN J a k).2 (wyN J a k).1 (stp (wyN J a k).2 (wyN J a k).1)) := rfl
theorem stp_ok {A B : Nat → Nat} {M S a : Nat} {J : Nat → Nat} (hw : wfL A B M) (hg : goF A B M S a J) (hne : ∃ l, l < M ∧ S.testBit l = true) : stp J a < 24 ∧ stB J a (stp J a) = true ∧ (∀ i, i < stp J a → stB J a i = false) ∧ ∃ k, k < M ∧ S.testBit k = true ∧ bet A B k a (stp J a) ∧ goF A B M (S ^^^ 2 ^ k) (stp J a) (flp J a (stp J a)) := by
  obtain ⟨b, k, h1, h2, h3, h4⟩ := go_on hw hg hne
  have hb := bet_ne hw h1 h3
  have hP : stB J a b = true := by
    unfold stB
    rw [Bool.and_eq_true]
    exact ⟨(hg.1 a b).mpr ⟨k, h1, h2, h3⟩, hgB_iff.mpr (fun u _ => h4 u)⟩
  obtain ⟨q1, q2, q3⟩ := lsN_spec (n := 24) hb.2.2 hP
  have q4 : stp J a < 24 := by unfold stp; omega
  refine ⟨q4, q2, q3, ?_⟩
  have q5 : stB J a (stp J a) = true := q2
  generalize stp J a = c at *
  unfold stB at q5
  rw [Bool.and_eq_true] at q5
  obtain ⟨k2, e1, e2, e3⟩ := (hg.1 a c).mp q5.1
  have hJ2 := isJ_del hw hg.1 e1 e2 e3
  refine ⟨k2, e1, e2, e3, hJ2, q4, ?_, odd_step hw e1 e2 e3 hg.2.2.2⟩
  intro i hi
  refine hgB_iff.mp q5.2 i ?_ hi
  rcases Nat.lt_or_ge i 24 with w | w
  · exact w
  · exact absurd (isJ_hi hw hJ2 w) hi
theorem cnt_pos {m : Nat} : ∀ n, 0 < cnt m n → ∃ l, l < n ∧ m.testBit l = true
  | 0, h => by simp [cnt] at h
  | n + 1, h => by
    cases q : m.testBit n
    · have : cnt m (n + 1) = cnt m n := by show cnt m n + (if m.testBit n then 1 else 0) = _; rw [q]; rfl
      rw [this] at h
      obtain ⟨l, h1, h2⟩ := cnt_pos n h
      exact ⟨l, by omega, h2⟩
    · exact ⟨n, by omega, q⟩
theorem cnt_del {m k n : Nat} (hk : k < n) (h : m.testBit k = true) : cnt (m ^^^ 2 ^ k) n + 1 = cnt m n := by
  have := cnt_flip (m := m) (i := k) n hk
  rw [h] at this
  simpa using this
theorem wy_ok {A B : Nat → Nat} {M S a : Nat} {J : Nat → Nat} (hw : wfL A B M) (hg : goF A B M S a J) (k : Nat) : k ≤ cnt S M → ∃ S2, cnt S2 M + k = cnt S M ∧ goF A B M S2 (wyN J a k).1 (wyN J a k).2 := by
  induction k with
  | zero => exact fun _ => ⟨S, by omega, hg⟩
  | succ k ih =>
    intro h
    obtain ⟨S2, h1, h2⟩ := ih (by omega)
    obtain ⟨_, _, _, l, q1, q2, _, q4⟩ := stp_ok hw h2 (cnt_pos M (by omega))
    have hd := cnt_del q1 q2
    refine ⟨S2 ^^^ 2 ^ l, by omega, ?_⟩
    rw [wyN_s]
    dsimp only
    exact q4
theorem prt_sym {A B : Nat → Nat} {M S p q : Nat} {J : Nat → Nat} (hw : wfL A B M) (hJ : isJ A B M S J) (hq : q < 24) (h : (prt J p).testBit q = true) : (prt J q).testBit p = true := by
  cases e : (prt J q).testBit p
  · have := prt_out hJ (X := prt J q) (fun i j => prt_clo (isJ_lt hw hJ) hq) e q h
    rw [prt_self] at this
    cases this
  · rfl
theorem prt_tr {A B : Nat → Nat} {M S p q i : Nat} {J : Nat → Nat} (hw : wfL A B M) (hJ : isJ A B M S J) (hp : p < 24) (h : (prt J p).testBit q = true) (h2 : (prt J q).testBit i = true) : (prt J p).testBit i = true :=
  prt_least (X := fun i => (prt J p).testBit i = true) h (fun _ _ => prt_clo (isJ_lt hw hJ) hp) i h2
theorem knF_one {A B : Nat → Nat} {M S : Nat} {J : Nat → Nat} {od : Nat} (hw : wfL A B M) (hJ : isJ A B M S J) : ∀ p, p ≤ 24 → (knF J od p).2.2.1 = 1 → ∃ q, q < 24 ∧ J q ≠ 0 ∧ (knF J od p).1 = prt J q ∧ (knF J od p).2.1 = max (cnt (prt J q &&& od) 24 / 2) 1
  | 0, _, h => by simp [knF] at h
  | p + 1, hp, h => by
    by_cases hc : J p ≠ 0 ∧ (knF J od p).1.testBit p = false
    · rw [knF_yes hc] at h ⊢
      dsimp only at h ⊢
      obtain ⟨_, _, _, _, _, i6⟩ := knF_clo (od := od) hw hJ p (by omega)
      have h0 : (knF J od p).2.2.1 = 0 := by omega
      have hs : (knF J od p).1 = 0 := by
        refine Nat.eq_of_testBit_eq (fun i => ?_)
        rw [Nat.zero_testBit, Bool.eq_false_iff]
        intro w
        have := i6 i w
        omega
      have ht : ∀ p, (knF J od p).2.2.1 = 0 → (knF J od p).2.1 = 0 := by
        intro p
        induction p with
        | zero => intro _; rfl
        | succ p ih =>
          by_cases hc : J p ≠ 0 ∧ (knF J od p).1.testBit p = false
          · rw [knF_yes hc]; intro w; dsimp only at w; omega
          · rw [knF_no hc]; exact ih
      refine ⟨p, by omega, hc.1, by rw [hs, Nat.zero_or], ?_⟩
      rw [ht p h0, Nat.zero_add]
    · rw [knF_no hc] at h ⊢
      exact knF_one hw hJ p (by omega) h
theorem knF_pos {J : Nat → Nat} {od : Nat} : ∀ p, (knF J od p).2.2.1 = 0 → (knF J od p).2.1 = 0
  | 0, _ => rfl
  | p + 1, h => by
    by_cases hc : J p ≠ 0 ∧ (knF J od p).1.testBit p = false
    · rw [knF_yes hc] at h; dsimp only at h; omega
    · rw [knF_no hc] at h ⊢; exact knF_pos p h
def stA (J : Nat → Nat) (od : Nat) : Nat := if od = 0 then lsN (fun u => decide (J u ≠ 0)) 24 else lsN (fun u => od.testBit u) 24
theorem cnt_most2 {m a z : Nat} (hz : a < z) (hz2 : z < 24) (ha : m.testBit a = true) (hz3 : m.testBit z = true) (hc : cnt m 24 ≤ 2) (hm : m < 16777216) (i : Nat) : m.testBit i = true ↔ i = a ∨ i = z := by
  constructor
  · intro hi
    have hi24 : i < 24 := tb_lo (n := 24) hm hi
    apply Classical.byContradiction
    intro hn
    have hd : cnt ((m ^^^ 2 ^ a) ^^^ 2 ^ z) 24 + 2 = cnt m 24 := by
      have h1 := cnt_del (m := m) (k := a) (n := 24) (by omega) ha
      have h2 := cnt_del (m := m ^^^ 2 ^ a) (k := z) (n := 24) hz2 (by rw [tb_x, if_neg (by omega)]; exact hz3)
      omega
    have h3 := cnt_some (m := (m ^^^ 2 ^ a) ^^^ 2 ^ z) (i := i) 24 hi24 (by rw [tb_x, if_neg (by omega), tb_x, if_neg (by omega)]; exact hi)
    omega
  · rintro (e | e)
    · rw [e]; exact ha
    · rw [e]; exact hz3
theorem oddN_lt {A B : Nat → Nat} {M S : Nat} (hw : wfL A B M) : ∀ n, n ≤ M → oddN A B S n < 16777216
  | 0, _ => by show 0 < 16777216; decide
  | n + 1, h => by
    have ih := oddN_lt (S := S) hw n (by omega)
    have h1 := hw.1 n (by omega)
    show (if S.testBit n then oddN A B S n ^^^ 2 ^ A n ^^^ 2 ^ B n else oddN A B S n) < 2 ^ 24
    split
    · exact Nat.xor_lt_two_pow (Nat.xor_lt_two_pow ih (p_lt h1.1)) (p_lt h1.2.1)
    · exact ih
/-- one thread is enough: from the first pin all can be gone -/
theorem one_thread {A B : Nat → Nat} {M S : Nat} {J : Nat → Nat} {od : Nat} (hw : wfL A B M) (hJ : isJ A B M S J) (ho : od = oddN A B S M) (h : (knF J od 24).2.1 = 1) : goF A B M S (stA J od) J ∧ (knF J od 24).2.2.1 = 1 ∧ (∀ i, J i ≠ 0 → (knF J od 24).1.testBit i = true) ∧ (od ≠ 0 → od.testBit (stA J od) = true ∧ ∀ i, i < stA J od → od.testBit i = false) ∧ (od = 0 → J (stA J od) ≠ 0 ∧ ∀ i, i < stA J od → J i = 0) := by
  obtain ⟨c1, c2, c3, c4, c5, c6⟩ := knF_clo (od := od) hw hJ 24 (Nat.le_refl _)
  have hp : (knF J od 24).2.2.1 = 1 := by
    have := knF_pos (J := J) (od := od) 24
    omega
  obtain ⟨q, q1, q2, q3, q4⟩ := knF_one hw hJ 24 (Nat.le_refl _) hp
  have hall : ∀ i, J i ≠ 0 → (knF J od 24).1.testBit i = true := by
    intro i hi
    refine c3 i ?_ hi
    rcases Nat.lt_or_ge i 24 with w | w
    · exact w
    · exact absurd (isJ_hi hw hJ w) hi
  have hodl : od < 16777216 := by rw [ho]; exact oddN_lt hw M (Nat.le_refl _)
  have hopin : ∀ i, od.testBit i = true → J i ≠ 0 := by
    intro i hi
    rw [ho] at hi
    exact (isJ_pin hJ i).mp (oddN_pin i M hi)
  have hsub : prt J q &&& od = od := by
    refine Nat.eq_of_testBit_eq (fun i => ?_)
    rw [Nat.testBit_and]
    cases w : od.testBit i
    · simp
    · have := hall i (hopin i w)
      rw [q3] at this
      rw [this]; rfl
  rw [hsub, h] at q4
  have hev : cnt od 24 % 2 = 0 := by
    have := odd_even (S := S) (C := prt J q) hw (fun l e1 e2 => by
      have w1 : (J (A l)).testBit (B l) = true := (hJ _ _).mpr ⟨l, e1, e2, .inl ⟨rfl, rfl⟩⟩
      have w2 : (J (B l)).testBit (A l) = true := (hJ _ _).mpr ⟨l, e1, e2, .inr ⟨rfl, rfl⟩⟩
      exact Bool.eq_iff_iff.mpr ⟨fun w => prt_clo (isJ_lt hw hJ) q1 w w1, fun w => prt_clo (isJ_lt hw hJ) q1 w w2⟩) M (Nat.le_refl _)
    rw [← ho, hsub] at this
    exact this
  have hle : cnt od 24 ≤ 2 := by
    have := Nat.le_max_left (cnt od 24 / 2) 1
    omega
  have hA : (od ≠ 0 → od.testBit (stA J od) = true ∧ ∀ i, i < stA J od → od.testBit i = false) ∧ (od = 0 → J (stA J od) ≠ 0 ∧ ∀ i, i < stA J od → J i = 0) := by
    constructor
    · intro hne
      obtain ⟨i, hi⟩ := tb_ne.mp hne
      have := lsN_spec (P := fun u => od.testBit u) (n := 24) (tb_lo (n := 24) hodl hi) hi
      unfold stA
      rw [if_neg hne]
      exact this.2
    · intro he
      have := lsN_spec (P := fun u => decide (J u ≠ 0)) (n := 24) q1 (decide_eq_true q2)
      unfold stA
      rw [if_pos he]
      refine ⟨of_decide_eq_true this.2.1, fun i hi => ?_⟩
      have := of_decide_eq_false (this.2.2 i hi)
      exact Classical.byContradiction fun w => this w
  have hJa : J (stA J od) ≠ 0 := by
    by_cases w : od = 0
    · exact (hA.2 w).1
    · exact hopin _ (hA.1 w).1
  have ha24 : stA J od < 24 := by
    rcases Nat.lt_or_ge (stA J od) 24 with w | w
    · exact w
    · exact absurd (isJ_hi hw hJ w) hJa
  refine ⟨⟨hJ, ha24, ?_, ?_⟩, hp, hall, hA⟩
  · intro i hi
    have h1 := hall _ hJa
    have h2 := hall i hi
    rw [q3] at h1 h2
    exact prt_tr hw hJ ha24 (prt_sym hw hJ ha24 h1) h2
  · rw [← ho]
    by_cases w : od = 0
    · exact .inl w
    · right
      have hA1 := hA.1 w
      generalize stA J od = a at *
      have hc1 := cnt_some 24 ha24 hA1.1
      have hc2 : cnt od 24 = 2 := by omega
      have : 0 < cnt (od ^^^ 2 ^ a) 24 := by
        have := cnt_del ha24 hA1.1
        omega
      obtain ⟨z, z1, z2⟩ := cnt_pos 24 this
      rw [tb_x] at z2
      have hza : a ≠ z := by
        intro e
        rw [if_pos e, ← e, hA1.1] at z2
        cases z2
      rw [if_neg hza] at z2
      have hlt : a < z := by
        rcases Nat.lt_or_gt_of_ne hza with e | e
        · exact e
        · have := hA1.2 z e
          rw [this] at z2
          cases z2
      exact ⟨z, fun e => hza e.symm, cnt_most2 hlt z1 hA1.1 z2 (by omega) hodl⟩
theorem flp_lt {J : Nat → Nat} {a b : Nat} (h : ∀ u, J u < 16777216) (ha : a < 24) (hb : b < 24) (u : Nat) : flp J a b u < 16777216 := by
  unfold flp
  have pa := p_lt ha
  have pb := p_lt hb
  split
  · exact Nat.xor_lt_two_pow (n := 24) (h b) pa
  · split
    · exact Nat.xor_lt_two_pow (n := 24) (h a) pb
    · exact h u
theorem flp_flp {J : Nat → Nat} {a b : Nat} (hab : a ≠ b) : flp (flp J a b) a b = J := by
  funext u
  refine Nat.eq_of_testBit_eq (fun i => ?_)
  rw [tb_flp hab, tb_flp hab]
  split
  · rw [Bool.not_not]
  · rfl
theorem cnt_all : ∀ n k, n ≤ k → cnt (2 ^ k - 1) n = n
  | 0, _, _ => rfl
  | n + 1, k, h => by
    show cnt (2 ^ k - 1) n + (if (2 ^ k - 1).testBit n then 1 else 0) = n + 1
    rw [cnt_all n k (by omega), Nat.testBit_two_pow_sub_one, if_pos (decide_eq_true (by omega))]

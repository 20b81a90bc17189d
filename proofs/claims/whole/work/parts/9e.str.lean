def stO (g : ot_G) (q v N : Nat) (b : List Int) : Prop := (∀ U : State, g.2.2.2.2 U g.1 → va_O "java/lang/String" q (ot_A g) U g.1) ∧ (∀ U : State, g.2.2.2.2 U g.1 → va_OF "java/lang/String" "coder" "B" (ot_i 0) q (ot_A g) U g.1) ∧ (∀ U : State, g.2.2.2.2 U g.1 → va_OF "java/lang/String" "value" "[B" (.ref v) q (ot_A g) U g.1) ∧ (∀ U : State, g.2.2.2.2 U g.1 → va_T .byte v N (fun j => ot_i (b.getD j 0)) (ot_A g) U g.1) ∧ N ≤ 1000 ∧ ∀ j, 0 ≤ b.getD j 0 ∧ b.getD j 0 ≤ 127
def stZ (g : ot_G) : Prop := (∀ U : State, g.2.2.2.2 U g.1 → va_Z "java/lang/String" "COMPACT_STRINGS" "Z" (ot_i 1) (ot_A g) U g.1) ∧ ∃ v : Value, v.category = 1 ∧ ∀ U : State, g.2.2.2.2 U g.1 → va_Z "jdk/internal/util/Preconditions" "SIOOBE_FORMATTER" "Ljava/util/function/BiFunction;" v (ot_A g) U g.1
theorem c2i {x : Int} (h : 0 ≤ x ∧ x ≤ 255) : ((Int32.ofInt x).toUInt32 % 65536).toInt32 = Int32.ofInt x := by
  have key : ∀ n : Nat, n < 256 → ((Int32.ofInt (n : Int)).toUInt32 % 65536).toInt32 = Int32.ofInt (n : Int) := by decide +kernel
  have := key x.toNat (by omega)
  rw [Int.toNat_of_nonneg h.1] at this
  exact this
theorem b2i {x : Int} (h : 0 ≤ x ∧ x ≤ 255) : (Int32.ofInt x).toInt8.toInt32 = Int32.ofInt (if x ≤ 127 then x else x - 256) := by
  have key : ∀ n : Nat, n < 256 → (Int32.ofInt (n : Int)).toInt8.toInt32 = Int32.ofInt (if (n : Int) ≤ 127 then (n : Int) else (n : Int) - 256) := by decide +kernel
  have := key x.toNat (by omega)
  rw [Int.toNat_of_nonneg h.1] at this
  exact this
theorem a255 {x : Int} (h : 0 ≤ x ∧ x ≤ 255) : ot_and x 255 = x := by
  have := bo_and x.toNat 255 (by omega)
  rw [Int.toNat_of_nonneg h.1, show ((255 : Nat) : Int) = 255 from rfl] at this
  rw [this]
  have e : x.toNat &&& 255 = x.toNat % 256 := Nat.and_two_pow_sub_one_eq_mod x.toNat 8
  rw [e]
  omega

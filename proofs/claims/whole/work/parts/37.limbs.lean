/-! limbs hold a number -/
def LB : Nat := 2 ^ 30
/-- the limbs at a hold v, n of them -/
def z_Li (fi : Nat → Nat → Int32) (a n v : Nat) : Prop := fi a 51 = nI n ∧ v < LB ^ n ∧ (0 < n → LB ^ (n - 1) ≤ v) ∧ ∀ i, i < n → fi (a + 1) i = nI (v / LB ^ i % LB)
theorem lb_pos (i : Nat) : 0 < LB ^ i := Nat.pow_pos (by decide)
theorem lb_step (v f i : Nat) : v % LB ^ i * f / LB ^ i + v / LB ^ i % LB * f = v % LB ^ (i + 1) * f / LB ^ i := by
  rw [show v % LB ^ (i + 1) = v % LB ^ i + LB ^ i * (v / LB ^ i % LB) from by rw [Nat.pow_succ, Nat.mod_mul], Nat.add_mul, Nat.mul_assoc, Nat.add_mul_div_left _ _ (lb_pos i)]
theorem lb_div (v f i : Nat) : v % LB ^ (i + 1) * f / LB ^ i / LB = v % LB ^ (i + 1) * f / LB ^ (i + 1) := by
  rw [Nat.div_div_eq_div_mul, ← Nat.pow_succ]
theorem lb_mod (v f i : Nat) : v % LB ^ (i + 1) * f / LB ^ i % LB = v * f / LB ^ i % LB := by
  have e : v * f = v % LB ^ (i + 1) * f + LB ^ i * (LB * (v / LB ^ (i + 1) * f)) := by
    have := Nat.mod_add_div v (LB ^ (i + 1))
    have q : LB ^ i * (LB * (v / LB ^ (i + 1) * f)) = LB ^ (i + 1) * (v / LB ^ (i + 1)) * f := by
      rw [Nat.pow_succ]
      simp only [Nat.mul_assoc]
    rw [q, ← Nat.add_mul, this]
  rw [e, Nat.add_mul_div_left _ _ (lb_pos i), Nat.add_mul_mod_self_left]
theorem lb_small (v f i : Nat) (hf : 0 < f) : v % LB ^ i * f / LB ^ i < f := by
  rw [Nat.div_lt_iff_lt_mul (lb_pos i), Nat.mul_comm f]
  exact (Nat.mul_lt_mul_right hf).mpr (Nat.mod_lt _ (lb_pos i))

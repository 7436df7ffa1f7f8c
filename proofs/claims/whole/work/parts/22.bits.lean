/-! bits of small numbers -/
theorem nI_bv (a : Nat) : (nI a).toBitVec = BitVec.ofNat 32 a := rfl
theorem b_and {a b : Nat} : nI a &&& nI b = nI (a &&& b) := by
  rw [← Int32.toBitVec_inj, Int32.toBitVec_and, nI_bv, nI_bv, nI_bv, BitVec.ofNat_and]
theorem b_or {a b : Nat} : nI a ||| nI b = nI (a ||| b) := by
  rw [← Int32.toBitVec_inj, Int32.toBitVec_or, nI_bv, nI_bv, nI_bv, BitVec.ofNat_or]
theorem b_xor {a b : Nat} : nI a ^^^ nI b = nI (a ^^^ b) := by
  rw [← Int32.toBitVec_inj, Int32.toBitVec_xor, nI_bv, nI_bv, nI_bv, BitVec.ofNat_xor]
theorem b_smod : ∀ k, k < 32 → (((nI k &&& 31).toBitVec).smod 32).toNat = k := by decide +kernel
theorem b_umod : ∀ k, k < 32 → (((nI k).toUInt32 &&& Int32.toUInt32 31).toBitVec % 32).toNat = k := by decide +kernel
theorem b_shl {a k : Nat} (hk : k < 32) (h : a * 2 ^ k < 2 ^ 32) : nI a <<< (nI k &&& 31) = nI (a * 2 ^ k) := pk_shlN _ k (b_smod k hk) h
theorem b_shr {a k : Nat} (hk : k < 32) (h : a < 2 ^ 31) : nI a >>> (nI k &&& 31) = nI (a / 2 ^ k) := pk_shrN h _ k (b_smod k hk)
theorem b_ushr {a k : Nat} (hk : k < 32) (h : a < 2 ^ 32) : ((nI a).toUInt32 >>> ((nI k).toUInt32 &&& Int32.toUInt32 31)).toInt32 = nI (a / 2 ^ k) := pk_ushrN h _ k (b_umod k hk)
theorem b_m1 : (nM 1).toBitVec = BitVec.allOnes 32 := by decide +kernel
/-- a and not b -/
theorem b_andn {a b : Nat} : nI a &&& (nI b ^^^ nM 1) = nI (a ^^^ (a &&& b)) := by
  rw [← Int32.toBitVec_inj, Int32.toBitVec_and, Int32.toBitVec_xor, b_m1, nI_bv, nI_bv, nI_bv, BitVec.ofNat_xor, BitVec.ofNat_and]
  ext i hi
  simp only [BitVec.getElem_and, BitVec.getElem_xor, BitVec.getElem_allOnes]
  cases (BitVec.ofNat 32 a)[i] <;> cases (BitVec.ofNat 32 b)[i] <;> rfl
/-- any int and not a small one -/
theorem b_not {x : Int32} {b k : Nat} (hk : k ≤ 30) (hb : b = 2 ^ k - 1) : (x &&& (nI b ^^^ nM 1) = nI 0) = (0 ≤ x.toInt ∧ x.toInt < 2 ^ k) := by
  apply propext
  subst hb
  have hk2 : 2 ^ k ≤ 2 ^ 30 := Nat.pow_le_pow_right (by decide) hk
  constructor
  · intro h
    have hb : ∀ i, k ≤ i → x.toBitVec.toNat.testBit i = false := fun i hi => by
      by_cases h32 : i < 32
      · have e := congrArg (fun z : Int32 => z.toBitVec.getLsbD i) h
        simp only [Int32.toBitVec_and, Int32.toBitVec_xor, b_m1, nI_bv, BitVec.getLsbD_and, BitVec.getLsbD_xor, BitVec.getLsbD_allOnes, BitVec.getLsbD_ofNat, Nat.testBit_two_pow_sub_one, h32, decide_true, Bool.true_and, Nat.zero_testBit, Bool.false_and] at e
        rw [decide_eq_false (by omega)] at e
        simpa [BitVec.getLsbD] using e
      · exact Nat.testBit_lt_two_pow (Nat.lt_of_lt_of_le x.toBitVec.isLt (Nat.pow_le_pow_right (by decide) (by omega)))
    have h2 := Nat.lt_pow_two_of_testBit x.toBitVec.toNat hb
    have e : x.toInt = (x.toBitVec.toNat : Int) := BitVec.toInt_eq_toNat_of_lt (by omega)
    rw [e]
    constructor
    · omega
    · exact_mod_cast h2
  · rintro ⟨h0, h1⟩
    have hn : ¬ x < 0 := by
      rw [Int32.lt_iff_toInt_lt]
      simpa using h0
    obtain ⟨j, hj, rfl⟩ := nI_of hn
    rw [nI_toInt hj] at h1
    have h3 : j < 2 ^ k := by exact_mod_cast h1
    rw [b_andn, Nat.and_two_pow_sub_one_eq_mod, Nat.mod_eq_of_lt h3, Nat.xor_self]

/-! THE PURE SIDE: a row w of 110 numbers is a kitchen; what both classes hold and answer is said over it -/
theorem zb_0 : z_b01 (nI 0) = true := rfl
theorem zb_1 : z_b01 (nI 1) = true := rfl
theorem zle_0 : z_le4 [] = true := rfl
theorem zle_1 {a : Value} : z_le4 [a] = true := rfl
theorem zle_2 {a b : Value} : z_le4 [a, b] = true := rfl
theorem zle_3 {a b c : Value} : z_le4 [a, b, c] = true := rfl
theorem zle_4 {a b c d : Value} : z_le4 [a, b, c, d] = true := rfl
theorem olt_T {a b : Nat} (h : a < b) : (a < b) = True := eq_true h
theorem olt_F {a b : Nat} (h : b ≤ a) : (a < b) = False := eq_false (by omega)
theorem ole_T {a b : Nat} (h : a ≤ b) : (a ≤ b) = True := eq_true h
theorem ole_F {a b : Nat} (h : b < a) : (a ≤ b) = False := eq_false (by omega)
theorem oeq_T {a b : Nat} (h : a = b) : (a = b) = True := eq_true h
theorem oeq_F {a b : Nat} (h : a ≠ b) : (a = b) = False := eq_false h
theorem u2_same {α : Type} {f : Nat → Nat → α} {a k : Nat} {x : α} : u2 f a k x a k = x := by simp [u2]
theorem u2_row {α : Type} {f : Nat → Nat → α} {a k j : Nat} {x : α} (h : j ≠ k) : u2 f a k x a j = f a j := by simp [u2, h]
theorem u2_other {α : Type} {f : Nat → Nat → α} {a k b j : Nat} {x : α} (h : b ≠ a) : u2 f a k x b j = f b j := by simp [u2, h]
theorem nM_toInt {k : Nat} (h : k < 2 ^ 31) : (nM k).toInt = -(k : Int) := Int32.toInt_ofInt_of_le (by omega) (by omega)
theorem nM_neg {k : Nat} (h0 : 0 < k) (h : k < 2 ^ 31) : (nM k < nI 0) = True := by
  refine eq_true ?_
  rw [Int32.lt_iff_toInt_lt, nM_toInt h, nI_toInt (by decide)]
  omega
theorem nM_eqI {k a : Nat} (h0 : 0 < k) (h : k < 2 ^ 31) (ha : a < 2 ^ 31) : (nI a = nM k) = False := by
  refine eq_false ?_
  rw [← Int32.toInt_inj, nM_toInt h, nI_toInt ha]
  omega
theorem nM_eqI' {k a : Nat} (h0 : 0 < k) (h : k < 2 ^ 31) (ha : a < 2 ^ 31) : (nM k = nI a) = False := by
  refine eq_false ?_
  rw [← Int32.toInt_inj, nM_toInt h, nI_toInt ha]
  omega
theorem nM_eq {k j : Nat} (h : k < 2 ^ 31) (h2 : j < 2 ^ 31) : (nM k = nM j) = (k = j) := by
  apply propext
  rw [← Int32.toInt_inj, nM_toInt h, nM_toInt h2]
  omega
theorem zq {Q : Option Value → Mm → Prop} {M : Mm} {a b : Nat} (h : a = b) (hQ : Q (some (.int (nI a))) M) : Q (some (.int (nI b))) M := h ▸ hQ
/-- an argument: below 0, from n on, or a number below n -/
theorem z_arg (x : Int32) {n : Nat} (hn : n < 2 ^ 31) : x < nI 0 ∨ (¬ x < nI 0 ∧ nI n ≤ x) ∨ ∃ j, j < n ∧ x = nI j := by
  rcases pk_ix x hn with h | h | h
  · exact Or.inl h
  · by_cases h0 : x < nI 0
    · exact Or.inl h0
    · exact Or.inr (Or.inl ⟨h0, h⟩)
  · exact Or.inr (Or.inr h)
def a_sm (w : Nat → Nat) (d : Nat) : Nat := w (14 + d)
def a_st (w : Nat → Nat) (d s k : Nat) : Nat := w (17 + 12 * d + 4 * s + k)
def a_gone (w : Nat → Nat) (d : Nat) : Nat := w (55 + d)
def a_go (w : Nat → Nat) (d : Nat) : Nat → Nat → Nat → Nat × Nat
  | 0, s, l => (s, l)
  | n + 1, s, l => if s < a_sm w d ∧ a_st w d s 3 ≤ l then a_go w d n (s + 1) (l - a_st w d s 3) else (s, l)
/-- the step behind so many minutes, and minutes of it done -/
def a_stp (w : Nat → Nat) (d g : Nat) : Nat × Nat := a_go w d 3 0 g
def a_tot (w : Nat → Nat) (d : Nat) : Nat := (if 0 < a_sm w d then a_st w d 0 3 else 0) + (if 1 < a_sm w d then a_st w d 1 3 else 0) + (if 2 < a_sm w d then a_st w d 2 3 else 0)
/-- a dish that can be -/
def a_WD (w : Nat → Nat) (d : Nat) : Prop := a_sm w d ≤ 3 ∧ ∀ s, s < a_sm w d → a_st w d s 0 ≤ 3 ∧ a_st w d s 1 ≤ 3 ∧ 0 < a_st w d s 0 + a_st w d s 1 ∧ a_st w d s 2 ≤ a_st w d s 0 + a_st w d s 1 ∧ 1 ≤ a_st w d s 3 ∧ a_st w d s 3 ≤ 5
/-- a row that a kitchen can be -/
def a_WF (w : Nat → Nat) : Prop :=
  w 0 ≤ 6 ∧ (∀ c, c < w 0 → w (1 + c) ≤ 5 ∧ w (7 + c) ≤ 9) ∧ w 13 ≤ 3 ∧ (∀ d, d < 3 → a_WD w d ∧ (w 13 ≤ d → a_sm w d = 0) ∧ a_gone w d ≤ a_tot w d) ∧
  w 53 ≤ 6 ∧ w 54 ≤ 1 ∧ w 58 ≤ a_gone w 0 + a_gone w 1 + a_gone w 2
theorem a_WD.cases {w : Nat → Nat} {d : Nat} (h : a_WD w d) : a_sm w d = 0 ∨ (a_sm w d = 1 ∧ 1 ≤ a_st w d 0 3 ∧ a_st w d 0 3 ≤ 5) ∨ (a_sm w d = 2 ∧ (1 ≤ a_st w d 0 3 ∧ a_st w d 0 3 ≤ 5) ∧ 1 ≤ a_st w d 1 3 ∧ a_st w d 1 3 ≤ 5) ∨ (a_sm w d = 3 ∧ (1 ≤ a_st w d 0 3 ∧ a_st w d 0 3 ≤ 5) ∧ (1 ≤ a_st w d 1 3 ∧ a_st w d 1 3 ≤ 5) ∧ 1 ≤ a_st w d 2 3 ∧ a_st w d 2 3 ≤ 5) := by
  obtain ⟨h1, h2⟩ := h
  have h3 : a_sm w d = 0 ∨ a_sm w d = 1 ∨ a_sm w d = 2 ∨ a_sm w d = 3 := by omega
  rcases h3 with h | h | h | h
  · exact Or.inl h
  · exact Or.inr (Or.inl ⟨h, (h2 0 (by omega)).2.2.2.2⟩)
  · exact Or.inr (Or.inr (Or.inl ⟨h, (h2 0 (by omega)).2.2.2.2, (h2 1 (by omega)).2.2.2.2⟩))
  · exact Or.inr (Or.inr (Or.inr ⟨h, (h2 0 (by omega)).2.2.2.2, (h2 1 (by omega)).2.2.2.2, (h2 2 (by omega)).2.2.2.2⟩))
/-- minutes of the first s steps -/
def a_pre (w : Nat → Nat) (d s : Nat) : Nat := (if 0 < s then a_st w d 0 3 else 0) + (if 1 < s then a_st w d 1 3 else 0) + (if 2 < s then a_st w d 2 3 else 0)
theorem a_stp_spec {w : Nat → Nat} {d : Nat} (hw : a_WD w d) (g : Nat) : (a_stp w d g).1 ≤ a_sm w d ∧ g = a_pre w d (a_stp w d g).1 + (a_stp w d g).2 ∧ ((a_stp w d g).1 < a_sm w d → (a_stp w d g).2 < a_st w d (a_stp w d g).1 3) := by
  unfold a_stp a_go a_go a_go a_go
  simp only [Nat.zero_add, Nat.reduceAdd]
  rcases hw.cases with e | ⟨e, s0⟩ | ⟨e, s0, s1⟩ | ⟨e, s0, s1, s2⟩ <;> rw [e] <;> (repeat' split) <;> simp [a_pre] <;> omega
theorem a_tot_le {w : Nat → Nat} {d : Nat} (h : a_WD w d) : a_tot w d ≤ 15 := by
  unfold a_tot
  rcases h.cases with e | ⟨e, h1⟩ | ⟨e, h1, h2⟩ | ⟨e, h1, h2, h3⟩ <;> rw [e] <;> simp <;> omega
/-- the ids of a dish's cells, and of a kitchen's -/
def z_dishes : List Nat := [24, 29, 34, 44, 49, 54, 98, 103, 108, 118, 123, 128]
def z_kits : List Nat := [19, 39, 93, 113]
def z_Dok (fr : Nat → Nat → Option Nat) (d : Nat) : Prop := z_ok 151 d 13 = true ∧ (z_ok 151 (d + 1) 1 = true ∧ z_ok 151 (d + 2) 1 = true ∧ z_ok 151 (d + 3) 1 = true ∧ z_ok 151 (d + 4) 1 = true) ∧ (z_al (d + 1) = 3 ∧ z_al (d + 2) = 3 ∧ z_al (d + 3) = 3 ∧ z_al (d + 4) = 3) ∧ fr d 28 = some (d + 1) ∧ fr d 29 = some (d + 2) ∧ fr d 30 = some (d + 3) ∧ fr d 31 = some (d + 4)
def z_Kok (fr : Nat → Nat → Option Nat) (k : Nat) : Prop := z_ok 151 k 16 = true ∧ (z_ok 151 (k + 1) 1 = true ∧ z_ok 151 (k + 2) 1 = true ∧ z_ok 151 (k + 3) 4 = true ∧ z_ok 151 (k + 4) 1 = true) ∧ (z_al (k + 1) = 6 ∧ z_al (k + 2) = 6 ∧ z_al (k + 3) = 3 ∧ z_al (k + 4) = 45) ∧ (fr k 41 = some (k + 1) ∧ fr k 42 = some (k + 2) ∧ fr k 44 = some (k + 3) ∧ fr k 48 = some (k + 4)) ∧ ∀ d, d < 3 → fr (k + 3) d = some (k + 5 + 5 * d) ∧ z_Dok fr (k + 5 + 5 * d)
theorem z_Dok_of {fr : Nat → Nat → Option Nat} (h : z_FR fr) {d : Nat} (hd : d ∈ z_dishes) : z_Dok fr d := by
  have key : ∀ d ∈ z_dishes, z_ok 151 d 13 = true ∧ (z_ok 151 (d + 1) 1 = true ∧ z_ok 151 (d + 2) 1 = true ∧ z_ok 151 (d + 3) 1 = true ∧ z_ok 151 (d + 4) 1 = true) ∧ (z_al (d + 1) = 3 ∧ z_al (d + 2) = 3 ∧ z_al (d + 3) = 3 ∧ z_al (d + 4) = 3) ∧ (d, 28, d + 1) ∈ z_frT ∧ (d, 29, d + 2) ∈ z_frT ∧ (d, 30, d + 3) ∈ z_frT ∧ (d, 31, d + 4) ∈ z_frT := by decide +kernel
  obtain ⟨a, b, c, e1, e2, e3, e4⟩ := key d hd
  exact ⟨a, b, c, h _ e1, h _ e2, h _ e3, h _ e4⟩
theorem z_Kok_of {fr : Nat → Nat → Option Nat} (h : z_FR fr) {k : Nat} (hk : k ∈ z_kits) : z_Kok fr k := by
  have key : ∀ k ∈ z_kits, z_ok 151 k 16 = true ∧ (z_ok 151 (k + 1) 1 = true ∧ z_ok 151 (k + 2) 1 = true ∧ z_ok 151 (k + 3) 4 = true ∧ z_ok 151 (k + 4) 1 = true) ∧ (z_al (k + 1) = 6 ∧ z_al (k + 2) = 6 ∧ z_al (k + 3) = 3 ∧ z_al (k + 4) = 45) ∧ ((k, 41, k + 1) ∈ z_frT ∧ (k, 42, k + 2) ∈ z_frT ∧ (k, 44, k + 3) ∈ z_frT ∧ (k, 48, k + 4) ∈ z_frT) := by decide +kernel
  have key2 : ∀ k ∈ z_kits, ∀ d ∈ [0, 1, 2], (k + 3, d, k + 5 + 5 * d) ∈ z_frT ∧ k + 5 + 5 * d ∈ z_dishes := by decide +kernel
  obtain ⟨a, b, c, e1, e2, e3, e4⟩ := key k hk
  refine ⟨a, b, c, ⟨h _ e1, h _ e2, h _ e3, h _ e4⟩, fun d hd => ?_⟩
  have f := key2 k hk d (by simp; omega)
  exact ⟨h _ f.1, z_Dok_of h f.2⟩
/-- dish d holds dish i of the row -/
def z_DR (fi : Nat → Nat → Int32) (d : Nat) (w : Nat → Nat) (i : Nat) : Prop := fi d 32 = nI (a_sm w i) ∧ fi d 33 = nI (a_gone w i) ∧ ∀ s, s < a_sm w i → fi (d + 1) s = nI (a_st w i s 0) ∧ fi (d + 2) s = nI (a_st w i s 1) ∧ fi (d + 3) s = nI (a_st w i s 2) ∧ fi (d + 4) s = nI (a_st w i s 3)
/-- kitchen k holds the row -/
def z_KR (fi : Nat → Nat → Int32) (k : Nat) (w : Nat → Nat) : Prop := (fi k 43 = nI (w 0) ∧ fi k 45 = nI (w 13) ∧ fi k 46 = nI (w 53) ∧ fi k 47 = nI (w 54) ∧ fi k 49 = nI (w 58)) ∧ (∀ c, c < w 0 → fi (k + 1) c = nI (w (1 + c)) ∧ fi (k + 2) c = nI (w (7 + c))) ∧ (∀ d, d < 3 → z_DR fi (k + 5 + 5 * d) w d) ∧ ∀ i, i < w 58 → fi (k + 4) i = nI (w (59 + i))
section
variable {fi : Nat → Nat → Int32} {fl : Nat → Nat → Int64} {fr : Nat → Nat → Option Nat} {Q : Option Value → Mm → Prop} {w : Nat → Nat}
theorem sp_stepAfter {d i g : Nat} (hd : z_Dok fr d) (hr : z_DR fi d w i) (hw : a_WD w i) (hg : g < 1000) :
    TT 158 0 [some (.ref d), some (.int (nI g)), none, none] [] (151, fi, fl, fr) Q = Q (some (.int (nI (a_stp w i g).1))) (151, fi, fl, fr) := by
  refine T_exact (fun Q hQ => ?_) Q
  obtain ⟨h1, ⟨h2, h3, h4, h5⟩, ⟨h6, h7, h8, h9⟩, h10, h11, h12, h13⟩ := hd
  obtain ⟨r1, r2, r3⟩ := hr
  unfold a_stp a_go a_go a_go a_go at hQ
  rcases hw.cases with e | ⟨e, s0⟩ | ⟨e, s0, s1⟩ | ⟨e, s0, s1, s2⟩ <;> rw [e] at r1 hQ <;> simp only [Nat.zero_add, Nat.reduceAdd] at hQ
  · simp (disch := first | assumption | rfl | exact zle_0 | exact zle_1 | exact zle_2 | exact zle_3 | exact zle_4 | exact zb_0 | exact zb_1 | exact zb01_B | omega) only [zT158_0, zr_ic_0, zT158_1, zr_istore_2, zT158_2, zT158_3, zr_istore_3, zT158_4, zr_iload_3, zT158_5, zr_aload_0, zT158_6, zr_gf_32, zT158_9, zr_icmp_ge, zT158_12, zr_iload_2, zT158_13, zT158_14, zr_gf_31, zr_or, zr_go, zT158_17, zT158_18, zr_iald, zT158_19, zr_iadd, zT158_20, zT158_21, zr_iload_1, zT158_22, zT158_23, zT158_26, zT158_27, zr_ret0, zT158_28, zr_iinc_3_1, zT158_31, zr_goto, zT158_34, zT158_35, zT158_38, zcl_i, zcl_r, zcl_l, zcl_n, zv_some, zv_none, Nat.reduceAdd, Nat.reduceMul, Nat.reduceSub, Nat.reduceLT, Nat.reduceLeDiff, Nat.reduceEqDiff, Int.reduceToNat, true_implies, false_implies, implies_true, and_true, true_and, not_true_eq_false, not_false_eq_true, Nat.zero_add, Nat.add_zero, nI_add, nI_ltI, nI_leI, nI_eq, pk_mul, pk_sub, u2_same, u2_row, u2_other, r1]
    exact zq rfl hQ
  · have q0 := r3 0 (by omega)
    simp (disch := first | assumption | rfl | exact zle_0 | exact zle_1 | exact zle_2 | exact zle_3 | exact zle_4 | exact zb_0 | exact zb_1 | exact zb01_B | omega) only [zT158_0, zr_ic_0, zT158_1, zr_istore_2, zT158_2, zT158_3, zr_istore_3, zT158_4, zr_iload_3, zT158_5, zr_aload_0, zT158_6, zr_gf_32, zT158_9, zr_icmp_ge, zT158_12, zr_iload_2, zT158_13, zT158_14, zr_gf_31, zr_or, zr_go, zT158_17, zT158_18, zr_iald, zT158_19, zr_iadd, zT158_20, zT158_21, zr_iload_1, zT158_22, zT158_23, zT158_26, zT158_27, zr_ret0, zT158_28, zr_iinc_3_1, zT158_31, zr_goto, zT158_34, zT158_35, zT158_38, zcl_i, zcl_r, zcl_l, zcl_n, zv_some, zv_none, Nat.reduceAdd, Nat.reduceMul, Nat.reduceSub, Nat.reduceLT, Nat.reduceLeDiff, Nat.reduceEqDiff, Int.reduceToNat, true_implies, false_implies, implies_true, and_true, true_and, not_true_eq_false, not_false_eq_true, Nat.zero_add, Nat.add_zero, nI_add, nI_ltI, nI_leI, nI_eq, pk_mul, pk_sub, u2_same, u2_row, u2_other, r1, q0, h13]
    repeat' first | intro _ | apply And.intro
    all_goals (refine zq ?_ hQ; (repeat' split) <;> first | rfl | (exfalso; omega))
  · have q0 := r3 0 (by omega)
    have q1 := r3 1 (by omega)
    simp (disch := first | assumption | rfl | exact zle_0 | exact zle_1 | exact zle_2 | exact zle_3 | exact zle_4 | exact zb_0 | exact zb_1 | exact zb01_B | omega) only [zT158_0, zr_ic_0, zT158_1, zr_istore_2, zT158_2, zT158_3, zr_istore_3, zT158_4, zr_iload_3, zT158_5, zr_aload_0, zT158_6, zr_gf_32, zT158_9, zr_icmp_ge, zT158_12, zr_iload_2, zT158_13, zT158_14, zr_gf_31, zr_or, zr_go, zT158_17, zT158_18, zr_iald, zT158_19, zr_iadd, zT158_20, zT158_21, zr_iload_1, zT158_22, zT158_23, zT158_26, zT158_27, zr_ret0, zT158_28, zr_iinc_3_1, zT158_31, zr_goto, zT158_34, zT158_35, zT158_38, zcl_i, zcl_r, zcl_l, zcl_n, zv_some, zv_none, Nat.reduceAdd, Nat.reduceMul, Nat.reduceSub, Nat.reduceLT, Nat.reduceLeDiff, Nat.reduceEqDiff, Int.reduceToNat, true_implies, false_implies, implies_true, and_true, true_and, not_true_eq_false, not_false_eq_true, Nat.zero_add, Nat.add_zero, nI_add, nI_ltI, nI_leI, nI_eq, pk_mul, pk_sub, u2_same, u2_row, u2_other, r1, q0, q1, h13]
    repeat' first | intro _ | apply And.intro
    all_goals (refine zq ?_ hQ; (repeat' split) <;> first | rfl | (exfalso; omega))
  · have q0 := r3 0 (by omega)
    have q1 := r3 1 (by omega)
    have q2 := r3 2 (by omega)
    simp (disch := first | assumption | rfl | exact zle_0 | exact zle_1 | exact zle_2 | exact zle_3 | exact zle_4 | exact zb_0 | exact zb_1 | exact zb01_B | omega) only [zT158_0, zr_ic_0, zT158_1, zr_istore_2, zT158_2, zT158_3, zr_istore_3, zT158_4, zr_iload_3, zT158_5, zr_aload_0, zT158_6, zr_gf_32, zT158_9, zr_icmp_ge, zT158_12, zr_iload_2, zT158_13, zT158_14, zr_gf_31, zr_or, zr_go, zT158_17, zT158_18, zr_iald, zT158_19, zr_iadd, zT158_20, zT158_21, zr_iload_1, zT158_22, zT158_23, zT158_26, zT158_27, zr_ret0, zT158_28, zr_iinc_3_1, zT158_31, zr_goto, zT158_34, zT158_35, zT158_38, zcl_i, zcl_r, zcl_l, zcl_n, zv_some, zv_none, Nat.reduceAdd, Nat.reduceMul, Nat.reduceSub, Nat.reduceLT, Nat.reduceLeDiff, Nat.reduceEqDiff, Int.reduceToNat, true_implies, false_implies, implies_true, and_true, true_and, not_true_eq_false, not_false_eq_true, Nat.zero_add, Nat.add_zero, nI_add, nI_ltI, nI_leI, nI_eq, pk_mul, pk_sub, u2_same, u2_row, u2_other, r1, q0, q1, q2, h13]
    repeat' first | intro _ | apply And.intro
    all_goals (refine zq ?_ hQ; (repeat' split) <;> first | rfl | (exfalso; omega))
theorem sp_minutesIn {d i g : Nat} (hd : z_Dok fr d) (hr : z_DR fi d w i) (hw : a_WD w i) (hg : g < 1000) :
    TT 159 0 [some (.ref d), some (.int (nI g)), none, none, none] [] (151, fi, fl, fr) Q = Q (some (.int (nI (a_stp w i g).2))) (151, fi, fl, fr) := by
  refine T_exact (fun Q hQ => ?_) Q
  have hsp := a_stp_spec hw g
  have hstep := fun Q => sp_stepAfter (fl := fl) (Q := Q) hd hr hw hg
  obtain ⟨h1, ⟨h2, h3, h4, h5⟩, ⟨h6, h7, h8, h9⟩, h10, h11, h12, h13⟩ := hd
  obtain ⟨r1, r2, r3⟩ := hr
  generalize hst : a_stp w i g = st at *
  obtain ⟨t, l⟩ := st
  have h4 := hw.1
  obtain ⟨e1, e2, e3⟩ := hsp
  dsimp only at *
  unfold a_pre at e2
  have ht : t = 0 ∨ t = 1 ∨ t = 2 ∨ t = 3 := by omega
  have q0 := fun h => r3 0 h
  have q1 := fun h => r3 1 h
  have q2 := fun h => r3 2 h
  rcases ht with rfl | rfl | rfl | rfl
  · simp (disch := first | assumption | rfl | exact zle_0 | exact zle_1 | exact zle_2 | exact zle_3 | exact zle_4 | exact zb_0 | exact zb_1 | exact zb01_B | omega) only [zT159_0, zr_iload_1, zT159_1, zr_istore_2, zT159_2, zr_aload_0, zT159_3, zT159_4, zr_iv_158, zT159_7, zr_istore_3, zT159_8, zr_ic_0, zT159_9, zr_istore_4, zT159_11, zr_iload_4, zT159_13, zr_iload_3, zT159_14, zr_icmp_ge, zT159_17, zr_iload_2, zT159_18, zT159_19, zr_gf_31, zr_or, zr_go, zT159_22, zT159_24, zr_iald, zT159_25, zr_isub, zT159_26, zT159_27, zr_iinc_4_1, zT159_30, zr_goto, zT159_33, zT159_34, zr_ret0, zcl_i, zcl_r, zcl_l, zcl_n, zv_some, zv_none, Nat.reduceAdd, Nat.reduceMul, Nat.reduceSub, Nat.reduceLT, Nat.reduceLeDiff, Nat.reduceEqDiff, Int.reduceToNat, true_implies, false_implies, implies_true, and_true, true_and, not_true_eq_false, not_false_eq_true, Nat.zero_add, Nat.add_zero, nI_add, nI_ltI, nI_leI, nI_eq, pk_mul, pk_sub, u2_same, u2_row, u2_other, hstep]
    simp at e2
    refine zq ?_ hQ
    omega
  · have q0 := r3 0 (by omega)
    simp at e2
    simp (disch := first | assumption | rfl | exact zle_0 | exact zle_1 | exact zle_2 | exact zle_3 | exact zle_4 | exact zb_0 | exact zb_1 | exact zb01_B | omega) only [zT159_0, zr_iload_1, zT159_1, zr_istore_2, zT159_2, zr_aload_0, zT159_3, zT159_4, zr_iv_158, zT159_7, zr_istore_3, zT159_8, zr_ic_0, zT159_9, zr_istore_4, zT159_11, zr_iload_4, zT159_13, zr_iload_3, zT159_14, zr_icmp_ge, zT159_17, zr_iload_2, zT159_18, zT159_19, zr_gf_31, zr_or, zr_go, zT159_22, zT159_24, zr_iald, zT159_25, zr_isub, zT159_26, zT159_27, zr_iinc_4_1, zT159_30, zr_goto, zT159_33, zT159_34, zr_ret0, zcl_i, zcl_r, zcl_l, zcl_n, zv_some, zv_none, Nat.reduceAdd, Nat.reduceMul, Nat.reduceSub, Nat.reduceLT, Nat.reduceLeDiff, Nat.reduceEqDiff, Int.reduceToNat, true_implies, false_implies, implies_true, and_true, true_and, not_true_eq_false, not_false_eq_true, Nat.zero_add, Nat.add_zero, nI_add, nI_ltI, nI_leI, nI_eq, pk_mul, pk_sub, u2_same, u2_row, u2_other, hstep, q0, h13]
    refine zq ?_ hQ
    omega
  · have q0 := r3 0 (by omega)
    have q1 := r3 1 (by omega)
    simp at e2
    simp (disch := first | assumption | rfl | exact zle_0 | exact zle_1 | exact zle_2 | exact zle_3 | exact zle_4 | exact zb_0 | exact zb_1 | exact zb01_B | omega) only [zT159_0, zr_iload_1, zT159_1, zr_istore_2, zT159_2, zr_aload_0, zT159_3, zT159_4, zr_iv_158, zT159_7, zr_istore_3, zT159_8, zr_ic_0, zT159_9, zr_istore_4, zT159_11, zr_iload_4, zT159_13, zr_iload_3, zT159_14, zr_icmp_ge, zT159_17, zr_iload_2, zT159_18, zT159_19, zr_gf_31, zr_or, zr_go, zT159_22, zT159_24, zr_iald, zT159_25, zr_isub, zT159_26, zT159_27, zr_iinc_4_1, zT159_30, zr_goto, zT159_33, zT159_34, zr_ret0, zcl_i, zcl_r, zcl_l, zcl_n, zv_some, zv_none, Nat.reduceAdd, Nat.reduceMul, Nat.reduceSub, Nat.reduceLT, Nat.reduceLeDiff, Nat.reduceEqDiff, Int.reduceToNat, true_implies, false_implies, implies_true, and_true, true_and, not_true_eq_false, not_false_eq_true, Nat.zero_add, Nat.add_zero, nI_add, nI_ltI, nI_leI, nI_eq, pk_mul, pk_sub, u2_same, u2_row, u2_other, hstep, q0, q1, h13]
    refine zq ?_ hQ
    omega
  · have q0 := r3 0 (by omega)
    have q1 := r3 1 (by omega)
    have q2 := r3 2 (by omega)
    simp at e2
    simp (disch := first | assumption | rfl | exact zle_0 | exact zle_1 | exact zle_2 | exact zle_3 | exact zle_4 | exact zb_0 | exact zb_1 | exact zb01_B | omega) only [zT159_0, zr_iload_1, zT159_1, zr_istore_2, zT159_2, zr_aload_0, zT159_3, zT159_4, zr_iv_158, zT159_7, zr_istore_3, zT159_8, zr_ic_0, zT159_9, zr_istore_4, zT159_11, zr_iload_4, zT159_13, zr_iload_3, zT159_14, zr_icmp_ge, zT159_17, zr_iload_2, zT159_18, zT159_19, zr_gf_31, zr_or, zr_go, zT159_22, zT159_24, zr_iald, zT159_25, zr_isub, zT159_26, zT159_27, zr_iinc_4_1, zT159_30, zr_goto, zT159_33, zT159_34, zr_ret0, zcl_i, zcl_r, zcl_l, zcl_n, zv_some, zv_none, Nat.reduceAdd, Nat.reduceMul, Nat.reduceSub, Nat.reduceLT, Nat.reduceLeDiff, Nat.reduceEqDiff, Int.reduceToNat, true_implies, false_implies, implies_true, and_true, true_and, not_true_eq_false, not_false_eq_true, Nat.zero_add, Nat.add_zero, nI_add, nI_ltI, nI_leI, nI_eq, pk_mul, pk_sub, u2_same, u2_row, u2_other, hstep, q0, q1, q2, h13]
    refine zq ?_ hQ
    omega
theorem sp_minutesLong {d i : Nat} (hd : z_Dok fr d) (hr : z_DR fi d w i) (hw : a_WD w i) :
    TT 152 0 [some (.ref d), none, none] [] (151, fi, fl, fr) Q = Q (some (.int (nI (a_tot w i)))) (151, fi, fl, fr) := by
  refine T_exact (fun Q hQ => ?_) Q
  obtain ⟨h1, ⟨h2, h3, h4, h5⟩, ⟨h6, h7, h8, h9⟩, h10, h11, h12, h13⟩ := hd
  obtain ⟨r1, r2, r3⟩ := hr
  unfold a_tot at hQ
  rcases hw.cases with e | ⟨e, s0⟩ | ⟨e, s0, s1⟩ | ⟨e, s0, s1, s2⟩ <;> rw [e] at r1 hQ <;> simp at hQ
  · simp (disch := first | assumption | rfl | exact zle_0 | exact zle_1 | exact zle_2 | exact zle_3 | exact zle_4 | exact zb_0 | exact zb_1 | exact zb01_B | omega) only [zT152_0, zr_ic_0, zT152_1, zr_istore_1, zT152_2, zT152_3, zr_istore_2, zT152_4, zr_iload_2, zT152_5, zr_aload_0, zT152_6, zr_gf_32, zT152_9, zr_icmp_ge, zT152_12, zr_iload_1, zT152_13, zT152_14, zr_gf_31, zr_or, zr_go, zT152_17, zT152_18, zr_iald, zT152_19, zr_iadd, zT152_20, zT152_21, zr_iinc_2_1, zT152_24, zr_goto, zT152_27, zT152_28, zr_ret0, zcl_i, zcl_r, zcl_l, zcl_n, zv_some, zv_none, Nat.reduceAdd, Nat.reduceMul, Nat.reduceSub, Nat.reduceLT, Nat.reduceLeDiff, Nat.reduceEqDiff, Int.reduceToNat, true_implies, false_implies, implies_true, and_true, true_and, not_true_eq_false, not_false_eq_true, Nat.zero_add, Nat.add_zero, nI_add, nI_ltI, nI_leI, nI_eq, pk_mul, pk_sub, u2_same, u2_row, u2_other, r1]
    exact hQ
  · have q0 := r3 0 (by omega)
    simp (disch := first | assumption | rfl | exact zle_0 | exact zle_1 | exact zle_2 | exact zle_3 | exact zle_4 | exact zb_0 | exact zb_1 | exact zb01_B | omega) only [zT152_0, zr_ic_0, zT152_1, zr_istore_1, zT152_2, zT152_3, zr_istore_2, zT152_4, zr_iload_2, zT152_5, zr_aload_0, zT152_6, zr_gf_32, zT152_9, zr_icmp_ge, zT152_12, zr_iload_1, zT152_13, zT152_14, zr_gf_31, zr_or, zr_go, zT152_17, zT152_18, zr_iald, zT152_19, zr_iadd, zT152_20, zT152_21, zr_iinc_2_1, zT152_24, zr_goto, zT152_27, zT152_28, zr_ret0, zcl_i, zcl_r, zcl_l, zcl_n, zv_some, zv_none, Nat.reduceAdd, Nat.reduceMul, Nat.reduceSub, Nat.reduceLT, Nat.reduceLeDiff, Nat.reduceEqDiff, Int.reduceToNat, true_implies, false_implies, implies_true, and_true, true_and, not_true_eq_false, not_false_eq_true, Nat.zero_add, Nat.add_zero, nI_add, nI_ltI, nI_leI, nI_eq, pk_mul, pk_sub, u2_same, u2_row, u2_other, r1, q0, h13]
    exact hQ
  · have q0 := r3 0 (by omega)
    have q1 := r3 1 (by omega)
    simp (disch := first | assumption | rfl | exact zle_0 | exact zle_1 | exact zle_2 | exact zle_3 | exact zle_4 | exact zb_0 | exact zb_1 | exact zb01_B | omega) only [zT152_0, zr_ic_0, zT152_1, zr_istore_1, zT152_2, zT152_3, zr_istore_2, zT152_4, zr_iload_2, zT152_5, zr_aload_0, zT152_6, zr_gf_32, zT152_9, zr_icmp_ge, zT152_12, zr_iload_1, zT152_13, zT152_14, zr_gf_31, zr_or, zr_go, zT152_17, zT152_18, zr_iald, zT152_19, zr_iadd, zT152_20, zT152_21, zr_iinc_2_1, zT152_24, zr_goto, zT152_27, zT152_28, zr_ret0, zcl_i, zcl_r, zcl_l, zcl_n, zv_some, zv_none, Nat.reduceAdd, Nat.reduceMul, Nat.reduceSub, Nat.reduceLT, Nat.reduceLeDiff, Nat.reduceEqDiff, Int.reduceToNat, true_implies, false_implies, implies_true, and_true, true_and, not_true_eq_false, not_false_eq_true, Nat.zero_add, Nat.add_zero, nI_add, nI_ltI, nI_leI, nI_eq, pk_mul, pk_sub, u2_same, u2_row, u2_other, r1, q0, q1, h13]
    exact hQ
  · have q0 := r3 0 (by omega)
    have q1 := r3 1 (by omega)
    have q2 := r3 2 (by omega)
    simp (disch := first | assumption | rfl | exact zle_0 | exact zle_1 | exact zle_2 | exact zle_3 | exact zle_4 | exact zb_0 | exact zb_1 | exact zb01_B | omega) only [zT152_0, zr_ic_0, zT152_1, zr_istore_1, zT152_2, zT152_3, zr_istore_2, zT152_4, zr_iload_2, zT152_5, zr_aload_0, zT152_6, zr_gf_32, zT152_9, zr_icmp_ge, zT152_12, zr_iload_1, zT152_13, zT152_14, zr_gf_31, zr_or, zr_go, zT152_17, zT152_18, zr_iald, zT152_19, zr_iadd, zT152_20, zT152_21, zr_iinc_2_1, zT152_24, zr_goto, zT152_27, zT152_28, zr_ret0, zcl_i, zcl_r, zcl_l, zcl_n, zv_some, zv_none, Nat.reduceAdd, Nat.reduceMul, Nat.reduceSub, Nat.reduceLT, Nat.reduceLeDiff, Nat.reduceEqDiff, Int.reduceToNat, true_implies, false_implies, implies_true, and_true, true_and, not_true_eq_false, not_false_eq_true, Nat.zero_add, Nat.add_zero, nI_add, nI_ltI, nI_leI, nI_eq, pk_mul, pk_sub, u2_same, u2_row, u2_other, r1, q0, q1, q2, h13]
    exact hQ
theorem sp_isDone {d i : Nat} (hd : z_Dok fr d) (hr : z_DR fi d w i) (hw : a_WD w i) (hg : a_gone w i ≤ a_tot w i) :
    TT 157 0 [some (.ref d)] [] (151, fi, fl, fr) Q = Q (some (.int (zB (decide (a_gone w i = a_tot w i))))) (151, fi, fl, fr) := by
  refine T_exact (fun Q hQ => ?_) Q
  have hml := fun Q => sp_minutesLong (fl := fl) (Q := Q) hd hr hw
  have ht := a_tot_le hw
  obtain ⟨h1, -⟩ := hd
  obtain ⟨r1, r2, r3⟩ := hr
  simp (disch := first | assumption | rfl | exact zle_0 | exact zle_1 | exact zle_2 | exact zle_3 | exact zle_4 | exact zb_0 | exact zb_1 | exact zb01_B | omega) only [zT157_0, zr_aload_0, zT157_1, zr_gf_33, zT157_4, zT157_5, zr_iv_152, zT157_8, zr_icmp_lt, zT157_11, zr_ic_1, zT157_12, zr_goto, zT157_15, zr_ic_0, zT157_16, zr_ret1_0, zr_ret1_1, zr_ret1_B, zcl_i, zcl_r, zcl_l, zcl_n, zv_some, zv_none, Nat.reduceAdd, Nat.reduceMul, Nat.reduceSub, Nat.reduceLT, Nat.reduceLeDiff, Nat.reduceEqDiff, Int.reduceToNat, true_implies, false_implies, implies_true, and_true, true_and, not_true_eq_false, not_false_eq_true, Nat.zero_add, Nat.add_zero, nI_add, nI_ltI, nI_leI, nI_eq, pk_mul, pk_sub, u2_same, u2_row, u2_other, hml, r2]
  repeat' first | intro _ | apply And.intro
  · rename_i h; rw [decide_eq_false (by omega)] at hQ; exact hQ
  · rename_i h; rw [decide_eq_true (by omega)] at hQ; exact hQ
end

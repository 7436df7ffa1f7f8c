/-! the card's items -/
def isw (tx : Nat → Nat) (p e a : Nat) : Bool := decide (e = p + wlen a) && sp_eq tx (wch a) p (wlen a) 0
/-- the word from p to e: 0 .. 4, or 5 for none -/
def wd_ (tx : Nat → Nat) (p e : Nat) : Nat := if isw tx p e 7 then 0 else if isw tx p e 8 then 1 else if isw tx p e 9 then 2 else if isw tx p e 10 then 3 else if isw tx p e 11 then 4 else 5
theorem wd_le {tx : Nat → Nat} {p e : Nat} : wd_ tx p e ≤ 5 := by
  unfold wd_
  repeat' split
  all_goals decide
/-- figures' value: over m bytes from p on -/
def a_val (tx : Nat → Nat) : Nat → Nat → Nat → Nat
  | 0, _, v => v
  | m + 1, p, v => a_val tx m (p + 1) (10 * v + tx p - 48)
/-- a number at p: its value and the place behind it -/
def a_num (tx : Nat → Nat) (n p : Nat) : Option (Nat × Nat) := if ren tx n 48 57 p = p ∨ 2 < ren tx n 48 57 p - p then none else some (a_val tx (ren tx n 48 57 p - p) p 0, sk tx n (ren tx n 48 57 p))
/-- so many numbers from p on: them, and the place; without them the place of the fault -/
def a_nums (tx : Nat → Nat) (n : Nat) : Nat → Nat → Option (List Nat) × Nat
  | 0, p => (some [], p)
  | k + 1, p => match a_num tx n p with
    | none => (none, p)
    | some (v, q) => match a_nums tx n k q with
      | (none, r) => (none, r)
      | (some l, r) => (some (v :: l), r)
def a_wdAt (tx : Nat → Nat) (n p : Nat) : Nat := wd_ tx p (ren tx n 97 122 p)
def nb (wd : Nat) : Nat := (z_stT 6).getD wd 0
def a_item (tx : Nat → Nat) (n p : Nat) : Option (Nat × List Nat) × Nat :=
  if a_wdAt tx n p = 5 then (none, p) else
  match a_nums tx n (nb (a_wdAt tx n p)) (sk tx n (ren tx n 97 122 p)) with
  | (none, r) => (none, r)
  | (some l, r) => if r < n ∧ tx r = 59 then (some (a_wdAt tx n p, l), r + 1) else (none, r)
def a_parse (tx : Nat → Nat) (n : Nat) : Nat → Nat → Option (List (Nat × List Nat)) × Nat
  | 0, _ => (some [], 0)
  | f + 1, p => if p < n then (match a_item tx n p with
    | (none, r) => (none, r)
    | (some it, r) => match a_parse tx n f (sk tx n r) with
      | (none, r2) => (none, r2)
      | (some l, r2) => (some (it :: l), r2)) else (some [], 0)
section
variable {fi : Nat → Nat → Int32} {fl : Nat → Nat → Int64} {fr : Nat → Nat → Option Nat} {Q : Option Value → Mm → Prop} {w : Nat → Nat} {k : Nat} {M : Mm} {tx : Nat → Nat} {n : Nat}
theorem ren_le {lo hi p : Nat} (h : p ≤ n) : p ≤ ren tx n lo hi p ∧ ren tx n lo hi p ≤ n := by
  obtain ⟨h1, h2, -⟩ := ren_spec (tx := tx) (n := n) (lo := lo) (hi := hi) (n - p) p rfl
  exact ⟨h1, h2 h⟩
theorem z_Tx.frame {fi' : Nat → Nat → Int32} (h : z_Tx fi tx n) (h1 : fi' 84 12 = fi 84 12) (h2 : fi' 85 = fi 85) : z_Tx fi' tx n := by
  unfold z_Tx at *
  rw [h1, h2]
  exact h
theorem sp_takeWord (hf : z_FR fr) (h : z_Tx fi tx n) {p : Nat} (hp : fi 84 13 = nI p) (hpn : p ≤ n)
    (hQ1 : a_wdAt tx n p = 5 → Q (some (.int (nM 1))) (151, fi, fl, fr))
    (hQ2 : a_wdAt tx n p ≠ 5 → ∀ fi', fi' 84 13 = nI (sk tx n (ren tx n 97 122 p)) → (∀ f, f ≠ 13 → fi' 84 f = fi 84 f) → (∀ j, j ≠ 84 → fi' j = fi j) → Q (some (.int (nI (a_wdAt tx n p)))) (151, fi', fl, fr)) :
    TT 129 0 [some (.ref 84), none, none] [] (151, fi, fl, fr) Q := by
  have o84 : z_ok 151 84 11 = true := rfl
  have r := fun Q => sp_runEnd (fl := fl) (Q := Q) hf h (show 97 < 256 by decide) (show 122 < 256 by decide) hp hpn
  obtain ⟨e1, e2⟩ := ren_le (tx := tx) (lo := 97) (hi := 122) hpn
  have n200 := h.1
  unfold a_wdAt at hQ1 hQ2
  generalize ren tx n 97 122 p = e at *
  have i7 := fun Q => sp_isSpelt (fl := fl) (Q := Q) hf h (show 7 ≤ 7 by decide) (by decide) hp e1 e2
  have i8 := fun Q => sp_isSpelt (fl := fl) (Q := Q) hf h (show 7 ≤ 8 by decide) (by decide) hp e1 e2
  have i9 := fun Q => sp_isSpelt (fl := fl) (Q := Q) hf h (show 7 ≤ 9 by decide) (by decide) hp e1 e2
  have i10 := fun Q => sp_isSpelt (fl := fl) (Q := Q) hf h (show 7 ≤ 10 by decide) (by decide) hp e1 e2
  have i11 := fun Q => sp_isSpelt (fl := fl) (Q := Q) hf h (show 7 ≤ 11 by decide) (by decide) hp e1 e2
  rw [show (decide (e = p + wlen 7) && sp_eq tx (wch 7) p (wlen 7) 0) = isw tx p e 7 from rfl] at i7
  rw [show (decide (e = p + wlen 8) && sp_eq tx (wch 8) p (wlen 8) 0) = isw tx p e 8 from rfl] at i8
  rw [show (decide (e = p + wlen 9) && sp_eq tx (wch 9) p (wlen 9) 0) = isw tx p e 9 from rfl] at i9
  rw [show (decide (e = p + wlen 10) && sp_eq tx (wch 10) p (wlen 10) 0) = isw tx p e 10 from rfl] at i10
  rw [show (decide (e = p + wlen 11) && sp_eq tx (wch 11) p (wlen 11) 0) = isw tx p e 11 from rfl] at i11
  have sk1 : ∀ Q, TT 132 0 [some (.ref 84)] [] (151, u2 fi 84 13 (nI e), fl, fr) Q = Q none (151, u2 (u2 fi 84 13 (nI e)) 84 13 (nI (sk tx n e)), fl, fr) := fun Q => sp_skip (fl := fl) (Q := Q) hf (h.frame (by simp (disch := decide) only [u2_row]) (by simp (disch := decide) only [u2_ne])) (by rw [u2_same]) e2
  have out := fun hne => hQ2 hne (u2 (u2 fi 84 13 (nI e)) 84 13 (nI (sk tx n e))) (by rw [u2_same]) (fun f hff => by simp (disch := assumption) only [u2_row]) (fun j hj => by simp (disch := assumption) only [u2_ne])
  clear hQ2
  have nm : ∀ k, k < 5 → (nI k = nM 1) = False := fun k hk => nM_eqI (by decide) (by decide) (by omega)
  have n0 := nm 0 (by decide)
  have n1 := nm 1 (by decide)
  have n2 := nm 2 (by decide)
  have n3 := nm 3 (by decide)
  have n4 := nm 4 (by decide)
  unfold wd_ at hQ1 out
  generalize isw tx p e 7 = b7 at *
  generalize isw tx p e 8 = b8 at *
  generalize isw tx p e 9 = b9 at *
  generalize isw tx p e 10 = b10 at *
  generalize isw tx p e 11 = b11 at *
  cases b7
  · cases b8
    · cases b9
      · cases b10
        · cases b11
          · have o := hQ1 rfl
            simp (disch := first | assumption | rfl | exact zle_0 | exact zle_1 | exact zle_2 | exact zle_3 | exact zle_4 | exact zb_0 | exact zb_1 | exact zb01_B | omega) only [zT129_0, zr_aload_0, zT129_1, zr_ic_97, zT129_3, zr_ic_122, zT129_5, zr_iv_133, zT129_8, zr_istore_1, zT129_9, zr_ic_m1, zT129_10, zr_istore_2, zT129_11, zT129_12, zr_ldc, zT129_14, zr_iload_1, zT129_15, zr_iv_134, zT129_18, zr_if_eq, zT129_21, zr_ic_0, zT129_22, zT129_23, zr_goto, zT129_26, zT129_27, zT129_29, zT129_30, zT129_33, zT129_36, zr_ic_1, zT129_37, zT129_38, zT129_41, zT129_42, zT129_44, zT129_45, zT129_48, zT129_51, zr_ic_2, zT129_52, zT129_53, zT129_56, zT129_57, zT129_59, zT129_60, zT129_63, zT129_66, zr_ic_3, zT129_67, zT129_68, zT129_71, zT129_72, zT129_74, zT129_75, zT129_78, zT129_81, zr_ic_4, zT129_82, zT129_83, zr_iload_2, zT129_84, zT129_85, zr_icmp_eq, zT129_88, zT129_89, zT129_90, zr_pf_13, zT129_93, zT129_94, zr_iv_132, zT129_97, zT129_98, zr_ret0, zcl_i, zcl_r, zcl_l, zcl_n, zv_some, zv_none, Nat.reduceAdd, Nat.reduceMul, Nat.reduceSub, Nat.reduceLT, Nat.reduceLeDiff, Nat.reduceEqDiff, Int.reduceToNat, true_implies, false_implies, implies_true, and_true, true_and, not_true_eq_false, not_false_eq_true, Nat.zero_add, Nat.add_zero, nI_add, nI_ltI, nI_leI, nI_eq, pk_mul, pk_sub, u2_same, u2_row, u2_other, r, i7, i8, i9, i10, i11, zB_eq0, olt_T, olt_F, ole_T, ole_F, oeq_T, oeq_F]
            exact o
          · have o := out (by simp)
            simp (disch := first | assumption | rfl | exact zle_0 | exact zle_1 | exact zle_2 | exact zle_3 | exact zle_4 | exact zb_0 | exact zb_1 | exact zb01_B | omega) only [zT129_0, zr_aload_0, zT129_1, zr_ic_97, zT129_3, zr_ic_122, zT129_5, zr_iv_133, zT129_8, zr_istore_1, zT129_9, zr_ic_m1, zT129_10, zr_istore_2, zT129_11, zT129_12, zr_ldc, zT129_14, zr_iload_1, zT129_15, zr_iv_134, zT129_18, zr_if_eq, zT129_21, zr_ic_0, zT129_22, zT129_23, zr_goto, zT129_26, zT129_27, zT129_29, zT129_30, zT129_33, zT129_36, zr_ic_1, zT129_37, zT129_38, zT129_41, zT129_42, zT129_44, zT129_45, zT129_48, zT129_51, zr_ic_2, zT129_52, zT129_53, zT129_56, zT129_57, zT129_59, zT129_60, zT129_63, zT129_66, zr_ic_3, zT129_67, zT129_68, zT129_71, zT129_72, zT129_74, zT129_75, zT129_78, zT129_81, zr_ic_4, zT129_82, zT129_83, zr_iload_2, zT129_84, zT129_85, zr_icmp_eq, zT129_88, zT129_89, zT129_90, zr_pf_13, zT129_93, zT129_94, zr_iv_132, zT129_97, zT129_98, zr_ret0, zcl_i, zcl_r, zcl_l, zcl_n, zv_some, zv_none, Nat.reduceAdd, Nat.reduceMul, Nat.reduceSub, Nat.reduceLT, Nat.reduceLeDiff, Nat.reduceEqDiff, Int.reduceToNat, true_implies, false_implies, implies_true, and_true, true_and, not_true_eq_false, not_false_eq_true, Nat.zero_add, Nat.add_zero, nI_add, nI_ltI, nI_leI, nI_eq, pk_mul, pk_sub, u2_same, u2_row, u2_other, r, i7, i8, i9, i10, i11, zB_eq0, reduceCtorEq, n4, sk1, olt_T, olt_F, ole_T, ole_F, oeq_T, oeq_F]
            exact o
        · have o := out (by simp)
          simp (disch := first | assumption | rfl | exact zle_0 | exact zle_1 | exact zle_2 | exact zle_3 | exact zle_4 | exact zb_0 | exact zb_1 | exact zb01_B | omega) only [zT129_0, zr_aload_0, zT129_1, zr_ic_97, zT129_3, zr_ic_122, zT129_5, zr_iv_133, zT129_8, zr_istore_1, zT129_9, zr_ic_m1, zT129_10, zr_istore_2, zT129_11, zT129_12, zr_ldc, zT129_14, zr_iload_1, zT129_15, zr_iv_134, zT129_18, zr_if_eq, zT129_21, zr_ic_0, zT129_22, zT129_23, zr_goto, zT129_26, zT129_27, zT129_29, zT129_30, zT129_33, zT129_36, zr_ic_1, zT129_37, zT129_38, zT129_41, zT129_42, zT129_44, zT129_45, zT129_48, zT129_51, zr_ic_2, zT129_52, zT129_53, zT129_56, zT129_57, zT129_59, zT129_60, zT129_63, zT129_66, zr_ic_3, zT129_67, zT129_68, zT129_71, zT129_72, zT129_74, zT129_75, zT129_78, zT129_81, zr_ic_4, zT129_82, zT129_83, zr_iload_2, zT129_84, zT129_85, zr_icmp_eq, zT129_88, zT129_89, zT129_90, zr_pf_13, zT129_93, zT129_94, zr_iv_132, zT129_97, zT129_98, zr_ret0, zcl_i, zcl_r, zcl_l, zcl_n, zv_some, zv_none, Nat.reduceAdd, Nat.reduceMul, Nat.reduceSub, Nat.reduceLT, Nat.reduceLeDiff, Nat.reduceEqDiff, Int.reduceToNat, true_implies, false_implies, implies_true, and_true, true_and, not_true_eq_false, not_false_eq_true, Nat.zero_add, Nat.add_zero, nI_add, nI_ltI, nI_leI, nI_eq, pk_mul, pk_sub, u2_same, u2_row, u2_other, r, i7, i8, i9, i10, zB_eq0, reduceCtorEq, n3, sk1, olt_T, olt_F, ole_T, ole_F, oeq_T, oeq_F]
          exact o
      · have o := out (by simp)
        simp (disch := first | assumption | rfl | exact zle_0 | exact zle_1 | exact zle_2 | exact zle_3 | exact zle_4 | exact zb_0 | exact zb_1 | exact zb01_B | omega) only [zT129_0, zr_aload_0, zT129_1, zr_ic_97, zT129_3, zr_ic_122, zT129_5, zr_iv_133, zT129_8, zr_istore_1, zT129_9, zr_ic_m1, zT129_10, zr_istore_2, zT129_11, zT129_12, zr_ldc, zT129_14, zr_iload_1, zT129_15, zr_iv_134, zT129_18, zr_if_eq, zT129_21, zr_ic_0, zT129_22, zT129_23, zr_goto, zT129_26, zT129_27, zT129_29, zT129_30, zT129_33, zT129_36, zr_ic_1, zT129_37, zT129_38, zT129_41, zT129_42, zT129_44, zT129_45, zT129_48, zT129_51, zr_ic_2, zT129_52, zT129_53, zT129_56, zT129_57, zT129_59, zT129_60, zT129_63, zT129_66, zr_ic_3, zT129_67, zT129_68, zT129_71, zT129_72, zT129_74, zT129_75, zT129_78, zT129_81, zr_ic_4, zT129_82, zT129_83, zr_iload_2, zT129_84, zT129_85, zr_icmp_eq, zT129_88, zT129_89, zT129_90, zr_pf_13, zT129_93, zT129_94, zr_iv_132, zT129_97, zT129_98, zr_ret0, zcl_i, zcl_r, zcl_l, zcl_n, zv_some, zv_none, Nat.reduceAdd, Nat.reduceMul, Nat.reduceSub, Nat.reduceLT, Nat.reduceLeDiff, Nat.reduceEqDiff, Int.reduceToNat, true_implies, false_implies, implies_true, and_true, true_and, not_true_eq_false, not_false_eq_true, Nat.zero_add, Nat.add_zero, nI_add, nI_ltI, nI_leI, nI_eq, pk_mul, pk_sub, u2_same, u2_row, u2_other, r, i7, i8, i9, zB_eq0, reduceCtorEq, n2, sk1, olt_T, olt_F, ole_T, ole_F, oeq_T, oeq_F]
        exact o
    · have o := out (by simp)
      simp (disch := first | assumption | rfl | exact zle_0 | exact zle_1 | exact zle_2 | exact zle_3 | exact zle_4 | exact zb_0 | exact zb_1 | exact zb01_B | omega) only [zT129_0, zr_aload_0, zT129_1, zr_ic_97, zT129_3, zr_ic_122, zT129_5, zr_iv_133, zT129_8, zr_istore_1, zT129_9, zr_ic_m1, zT129_10, zr_istore_2, zT129_11, zT129_12, zr_ldc, zT129_14, zr_iload_1, zT129_15, zr_iv_134, zT129_18, zr_if_eq, zT129_21, zr_ic_0, zT129_22, zT129_23, zr_goto, zT129_26, zT129_27, zT129_29, zT129_30, zT129_33, zT129_36, zr_ic_1, zT129_37, zT129_38, zT129_41, zT129_42, zT129_44, zT129_45, zT129_48, zT129_51, zr_ic_2, zT129_52, zT129_53, zT129_56, zT129_57, zT129_59, zT129_60, zT129_63, zT129_66, zr_ic_3, zT129_67, zT129_68, zT129_71, zT129_72, zT129_74, zT129_75, zT129_78, zT129_81, zr_ic_4, zT129_82, zT129_83, zr_iload_2, zT129_84, zT129_85, zr_icmp_eq, zT129_88, zT129_89, zT129_90, zr_pf_13, zT129_93, zT129_94, zr_iv_132, zT129_97, zT129_98, zr_ret0, zcl_i, zcl_r, zcl_l, zcl_n, zv_some, zv_none, Nat.reduceAdd, Nat.reduceMul, Nat.reduceSub, Nat.reduceLT, Nat.reduceLeDiff, Nat.reduceEqDiff, Int.reduceToNat, true_implies, false_implies, implies_true, and_true, true_and, not_true_eq_false, not_false_eq_true, Nat.zero_add, Nat.add_zero, nI_add, nI_ltI, nI_leI, nI_eq, pk_mul, pk_sub, u2_same, u2_row, u2_other, r, i7, i8, zB_eq0, reduceCtorEq, n1, sk1, olt_T, olt_F, ole_T, ole_F, oeq_T, oeq_F]
      exact o
  · have o := out (by simp)
    simp (disch := first | assumption | rfl | exact zle_0 | exact zle_1 | exact zle_2 | exact zle_3 | exact zle_4 | exact zb_0 | exact zb_1 | exact zb01_B | omega) only [zT129_0, zr_aload_0, zT129_1, zr_ic_97, zT129_3, zr_ic_122, zT129_5, zr_iv_133, zT129_8, zr_istore_1, zT129_9, zr_ic_m1, zT129_10, zr_istore_2, zT129_11, zT129_12, zr_ldc, zT129_14, zr_iload_1, zT129_15, zr_iv_134, zT129_18, zr_if_eq, zT129_21, zr_ic_0, zT129_22, zT129_23, zr_goto, zT129_26, zT129_27, zT129_29, zT129_30, zT129_33, zT129_36, zr_ic_1, zT129_37, zT129_38, zT129_41, zT129_42, zT129_44, zT129_45, zT129_48, zT129_51, zr_ic_2, zT129_52, zT129_53, zT129_56, zT129_57, zT129_59, zT129_60, zT129_63, zT129_66, zr_ic_3, zT129_67, zT129_68, zT129_71, zT129_72, zT129_74, zT129_75, zT129_78, zT129_81, zr_ic_4, zT129_82, zT129_83, zr_iload_2, zT129_84, zT129_85, zr_icmp_eq, zT129_88, zT129_89, zT129_90, zr_pf_13, zT129_93, zT129_94, zr_iv_132, zT129_97, zT129_98, zr_ret0, zcl_i, zcl_r, zcl_l, zcl_n, zv_some, zv_none, Nat.reduceAdd, Nat.reduceMul, Nat.reduceSub, Nat.reduceLT, Nat.reduceLeDiff, Nat.reduceEqDiff, Int.reduceToNat, true_implies, false_implies, implies_true, and_true, true_and, not_true_eq_false, not_false_eq_true, Nat.zero_add, Nat.add_zero, nI_add, nI_ltI, nI_leI, nI_eq, pk_mul, pk_sub, u2_same, u2_row, u2_other, r, i7, zB_eq0, reduceCtorEq, n0, sk1, olt_T, olt_F, ole_T, ole_F, oeq_T, oeq_F]
    exact o
theorem sp_val_ (hf : z_FR fr) (h : z_Tx fi tx n) {e : Nat} (hen : e ≤ n) (he : ∀ j, j < e → 48 ≤ tx j ∨ True) : ∀ m p, p + m = e → (∀ j, p ≤ j → j < e → 48 ≤ tx j) → ∀ v Q, TT 130 36 [some (.ref 84), some (.int (nI e)), some (.int (nI v)), some (.int (nI p))] [] (151, fi, fl, fr) Q = TT 130 61 [some (.ref 84), some (.int (nI e)), some (.int (nI (a_val tx m p v))), some (.int (nI e))] [] (151, fi, fl, fr) Q := by
  have n200 := h.1
  have o84 : z_ok 151 84 11 = true := rfl
  intro m
  induction m with
  | zero =>
    intro p hp hd v Q
    obtain rfl : p = e := by omega
    simp (disch := first | assumption | rfl | exact zle_0 | exact zle_1 | exact zle_2 | exact zle_3 | exact zle_4 | exact zb_0 | exact zb_1 | exact zb01_B | omega) only [zT130_36, zr_iload_3, zT130_37, zr_iload_1, zT130_38, zr_icmp_ge, zcl_i, zcl_r, zcl_l, zcl_n, zv_some, zv_none, Nat.reduceAdd, Nat.reduceMul, Nat.reduceSub, Nat.reduceLT, Nat.reduceLeDiff, Nat.reduceEqDiff, Int.reduceToNat, true_implies, false_implies, implies_true, and_true, true_and, not_true_eq_false, not_false_eq_true, Nat.zero_add, Nat.add_zero, nI_add, nI_ltI, nI_leI, nI_eq, pk_mul, pk_sub, u2_same, u2_row, u2_other, olt_T, olt_F, ole_T, ole_F, oeq_T, oeq_F]
    rfl
  | succ m ih =>
    intro p hp hd v Q
    have ih' := ih (p + 1) (by omega) (fun j j1 j2 => hd j (by omega) j2)
    have b := fun Q => sp_byteAt (fl := fl) (Q := Q) hf h (show p < n by omega)
    have d := hd p (Nat.le_refl _) (by omega)
    rw [show a_val tx (m + 1) p v = a_val tx m (p + 1) (10 * v + tx p - 48) from rfl]
    simp (disch := first | assumption | rfl | exact zle_0 | exact zle_1 | exact zle_2 | exact zle_3 | exact zle_4 | exact zb_0 | exact zb_1 | exact zb01_B | omega) only [zT130_36, zr_iload_3, zcl_i, zcl_r, zcl_l, zcl_n, zv_some, zv_none, Nat.reduceAdd, Nat.reduceMul, Nat.reduceSub, Nat.reduceLT, Nat.reduceLeDiff, Nat.reduceEqDiff, Int.reduceToNat, true_implies, false_implies, implies_true, and_true, true_and, not_true_eq_false, not_false_eq_true, Nat.zero_add, Nat.add_zero, nI_add, nI_ltI, nI_leI, nI_eq, pk_mul, pk_sub, u2_same, u2_row, u2_other]
    simp (disch := first | assumption | rfl | exact zle_0 | exact zle_1 | exact zle_2 | exact zle_3 | exact zle_4 | exact zb_0 | exact zb_1 | exact zb01_B | omega) only [zT130_37, zr_iload_1, zT130_38, zr_icmp_ge, zT130_41, zr_ic_10, zT130_43, zr_iload_2, zT130_44, zr_imul, zT130_45, zr_aload_0, zT130_46, zr_iload_3, zT130_47, zr_iv_135, zT130_50, zr_iadd, zT130_51, zr_ic_48, zT130_53, zr_isub, zT130_54, zr_istore_2, zT130_55, zr_iinc_3_1, zT130_58, zr_goto, zcl_i, zcl_r, zcl_l, zcl_n, zv_some, zv_none, Nat.reduceAdd, Nat.reduceMul, Nat.reduceSub, Nat.reduceLT, Nat.reduceLeDiff, Nat.reduceEqDiff, Int.reduceToNat, true_implies, false_implies, implies_true, and_true, true_and, not_true_eq_false, not_false_eq_true, Nat.zero_add, Nat.add_zero, nI_add, nI_ltI, nI_leI, nI_eq, pk_mul, pk_sub, u2_same, u2_row, u2_other, b, ih', olt_T, olt_F, ole_T, ole_F, oeq_T, oeq_F]
theorem sp_takeNumber (hf : z_FR fr) (h : z_Tx fi tx n) {p : Nat} (hp : fi 84 13 = nI p) (hpn : p ≤ n)
    (hQ1 : a_num tx n p = none → Q (some (.int (nM 1))) (151, fi, fl, fr))
    (hQ2 : ∀ v q, a_num tx n p = some (v, q) → ∀ fi', fi' 84 13 = nI q → (∀ f, f ≠ 13 → fi' 84 f = fi 84 f) → (∀ j, j ≠ 84 → fi' j = fi j) → Q (some (.int (nI v))) (151, fi', fl, fr)) :
    TT 130 0 [some (.ref 84), none, none, none] [] (151, fi, fl, fr) Q := by
  have o84 : z_ok 151 84 11 = true := rfl
  have r := fun Q => sp_runEnd (fl := fl) (Q := Q) hf h (show 48 < 256 by decide) (show 57 < 256 by decide) hp hpn
  obtain ⟨e1, e2⟩ := ren_le (tx := tx) (lo := 48) (hi := 57) hpn
  obtain ⟨-, -, e3, -⟩ := ren_spec (tx := tx) (n := n) (lo := 48) (hi := 57) (n - p) p rfl
  have n200 := h.1
  unfold a_num at hQ1 hQ2
  generalize ren tx n 48 57 p = e at *
  by_cases c : e = p ∨ 2 < e - p
  · rw [if_pos c] at hQ1
    have o := hQ1 rfl
    by_cases c1 : e = p
    · simp (disch := first | assumption | rfl | exact zle_0 | exact zle_1 | exact zle_2 | exact zle_3 | exact zle_4 | exact zb_0 | exact zb_1 | exact zb01_B | omega) only [zT130_0, zr_aload_0, zT130_1, zr_ic_48, zT130_3, zr_ic_57, zT130_5, zr_iv_133, zT130_8, zr_istore_1, zT130_9, zr_iload_1, zT130_10, zT130_11, zr_gf_13, zT130_14, zr_icmp_eq, zT130_17, zT130_18, zT130_19, zT130_22, zr_isub, zT130_23, zr_ic_2, zT130_24, zr_icmp_le, zT130_27, zr_ic_m1, zT130_28, zr_ret0, zcl_i, zcl_r, zcl_l, zcl_n, zv_some, zv_none, Nat.reduceAdd, Nat.reduceMul, Nat.reduceSub, Nat.reduceLT, Nat.reduceLeDiff, Nat.reduceEqDiff, Int.reduceToNat, true_implies, false_implies, implies_true, and_true, true_and, not_true_eq_false, not_false_eq_true, Nat.zero_add, Nat.add_zero, nI_add, nI_ltI, nI_leI, nI_eq, pk_mul, pk_sub, u2_same, u2_row, u2_other, r, hp, olt_T, olt_F, ole_T, ole_F, oeq_T, oeq_F]
      exact o
    · simp (disch := first | assumption | rfl | exact zle_0 | exact zle_1 | exact zle_2 | exact zle_3 | exact zle_4 | exact zb_0 | exact zb_1 | exact zb01_B | omega) only [zT130_0, zr_aload_0, zT130_1, zr_ic_48, zT130_3, zr_ic_57, zT130_5, zr_iv_133, zT130_8, zr_istore_1, zT130_9, zr_iload_1, zT130_10, zT130_11, zr_gf_13, zT130_14, zr_icmp_eq, zT130_17, zT130_18, zT130_19, zT130_22, zr_isub, zT130_23, zr_ic_2, zT130_24, zr_icmp_le, zT130_27, zr_ic_m1, zT130_28, zr_ret0, zcl_i, zcl_r, zcl_l, zcl_n, zv_some, zv_none, Nat.reduceAdd, Nat.reduceMul, Nat.reduceSub, Nat.reduceLT, Nat.reduceLeDiff, Nat.reduceEqDiff, Int.reduceToNat, true_implies, false_implies, implies_true, and_true, true_and, not_true_eq_false, not_false_eq_true, Nat.zero_add, Nat.add_zero, nI_add, nI_ltI, nI_leI, nI_eq, pk_mul, pk_sub, u2_same, u2_row, u2_other, r, hp, olt_T, olt_F, ole_T, ole_F, oeq_T, oeq_F]
      exact o
  · rw [if_neg c] at hQ2
    have sk1 : ∀ Q, TT 132 0 [some (.ref 84)] [] (151, u2 fi 84 13 (nI e), fl, fr) Q = Q none (151, u2 (u2 fi 84 13 (nI e)) 84 13 (nI (sk tx n e)), fl, fr) := fun Q => sp_skip (fl := fl) (Q := Q) hf (h.frame (by simp (disch := decide) only [u2_row]) (by simp (disch := decide) only [u2_ne])) (by rw [u2_same]) e2
    have L := fun Q => sp_val_ (fl := fl) hf h e2 (fun _ _ => Or.inr trivial) (e - p) p (by omega) (fun j j1 j2 => (e3 j j1 j2).2.1) 0 Q
    have o := hQ2 _ _ rfl (u2 (u2 fi 84 13 (nI e)) 84 13 (nI (sk tx n e))) (by rw [u2_same]) (fun f hff => by simp (disch := assumption) only [u2_row]) (fun j hj => by simp (disch := assumption) only [u2_ne])
    simp (disch := first | assumption | rfl | exact zle_0 | exact zle_1 | exact zle_2 | exact zle_3 | exact zle_4 | exact zb_0 | exact zb_1 | exact zb01_B | omega) only [zT130_0, zr_aload_0, zT130_1, zr_ic_48, zT130_3, zr_ic_57, zT130_5, zr_iv_133, zT130_8, zr_istore_1, zT130_9, zr_iload_1, zT130_10, zT130_11, zr_gf_13, zT130_14, zr_icmp_eq, zT130_17, zT130_18, zT130_19, zT130_22, zr_isub, zT130_23, zr_ic_2, zT130_24, zr_icmp_le, zT130_27, zr_ic_m1, zT130_28, zr_ret0, zT130_29, zr_ic_0, zT130_30, zr_istore_2, zT130_31, zT130_32, zT130_35, zr_istore_3, zT130_61, zT130_62, zT130_63, zr_pf_13, zT130_66, zT130_67, zr_iv_132, zT130_70, zr_iload_2, zT130_71, zcl_i, zcl_r, zcl_l, zcl_n, zv_some, zv_none, Nat.reduceAdd, Nat.reduceMul, Nat.reduceSub, Nat.reduceLT, Nat.reduceLeDiff, Nat.reduceEqDiff, Int.reduceToNat, true_implies, false_implies, implies_true, and_true, true_and, not_true_eq_false, not_false_eq_true, Nat.zero_add, Nat.add_zero, nI_add, nI_ltI, nI_leI, nI_eq, pk_mul, pk_sub, u2_same, u2_row, u2_other, r, hp, L, sk1, olt_T, olt_F, ole_T, ole_F, oeq_T, oeq_F]
    exact o
theorem sp_semi (hf : z_FR fr) (h : z_Tx fi tx n) {p : Nat} (hp : fi 84 13 = nI p) (hpn : p ≤ n) :
    TT 131 0 [some (.ref 84)] [] (151, fi, fl, fr) Q = if p < n ∧ tx p = 59 then Q (some (.int (zB true))) (151, u2 fi 84 13 (nI (p + 1)), fl, fr) else Q (some (.int (zB false))) (151, fi, fl, fr) := by
  have o84 : z_ok 151 84 11 = true := rfl
  have n200 := h.1
  have zt : nI 1 = zB true := rfl
  have zf : nI 0 = zB false := rfl
  by_cases c : p < n
  · have b := fun Q => sp_byteAt (fl := fl) (Q := Q) hf h c
    have t := (h.2.2 p c).1
    by_cases c2 : tx p = 59
    · rw [if_pos ⟨c, c2⟩]
      simp (disch := first | assumption | rfl | exact zle_0 | exact zle_1 | exact zle_2 | exact zle_3 | exact zle_4 | exact zb_0 | exact zb_1 | exact zb01_B | omega) only [zT131_0, zr_aload_0, zT131_1, zT131_2, zr_gf_13, zT131_5, zr_iv_135, zT131_8, zr_ic_59, zT131_10, zr_icmp_eq, zT131_13, zr_ic_0, zT131_14, zr_ret1_0, zr_ret1_1, zr_ret1_B, zT131_15, zT131_16, zr_dup_r, zr_dup_i, zT131_17, zT131_20, zr_ic_1, zT131_21, zr_iadd, zT131_22, zr_pf_13, zT131_25, zT131_26, zcl_i, zcl_r, zcl_l, zcl_n, zv_some, zv_none, Nat.reduceAdd, Nat.reduceMul, Nat.reduceSub, Nat.reduceLT, Nat.reduceLeDiff, Nat.reduceEqDiff, Int.reduceToNat, true_implies, false_implies, implies_true, and_true, true_and, not_true_eq_false, not_false_eq_true, Nat.zero_add, Nat.add_zero, nI_add, nI_ltI, nI_leI, nI_eq, pk_mul, pk_sub, u2_same, u2_row, u2_other, hp, b, olt_T, olt_F, ole_T, ole_F, oeq_T, oeq_F]
      rfl
    · rw [if_neg (fun q => c2 q.2)]
      simp (disch := first | assumption | rfl | exact zle_0 | exact zle_1 | exact zle_2 | exact zle_3 | exact zle_4 | exact zb_0 | exact zb_1 | exact zb01_B | omega) only [zT131_0, zr_aload_0, zT131_1, zT131_2, zr_gf_13, zT131_5, zr_iv_135, zT131_8, zr_ic_59, zT131_10, zr_icmp_eq, zT131_13, zr_ic_0, zT131_14, zr_ret1_0, zr_ret1_1, zr_ret1_B, zT131_15, zT131_16, zr_dup_r, zr_dup_i, zT131_17, zT131_20, zr_ic_1, zT131_21, zr_iadd, zT131_22, zr_pf_13, zT131_25, zT131_26, zcl_i, zcl_r, zcl_l, zcl_n, zv_some, zv_none, Nat.reduceAdd, Nat.reduceMul, Nat.reduceSub, Nat.reduceLT, Nat.reduceLeDiff, Nat.reduceEqDiff, Int.reduceToNat, true_implies, false_implies, implies_true, and_true, true_and, not_true_eq_false, not_false_eq_true, Nat.zero_add, Nat.add_zero, nI_add, nI_ltI, nI_leI, nI_eq, pk_mul, pk_sub, u2_same, u2_row, u2_other, hp, b, olt_T, olt_F, ole_T, ole_F, oeq_T, oeq_F]
      rfl
  · rw [if_neg (fun q => c q.1)]
    have b := fun Q => sp_byteAt_none (fl := fl) (Q := Q) hf h (show n ≤ p by omega) (by omega)
    have nm := nM_eqI' (k := 1) (a := 59) (by decide) (by decide) (by decide)
    simp (disch := first | assumption | rfl | exact zle_0 | exact zle_1 | exact zle_2 | exact zle_3 | exact zle_4 | exact zb_0 | exact zb_1 | exact zb01_B | omega) only [zT131_0, zr_aload_0, zT131_1, zT131_2, zr_gf_13, zT131_5, zr_iv_135, zT131_8, zr_ic_59, zT131_10, zr_icmp_eq, zT131_13, zr_ic_0, zT131_14, zr_ret1_0, zr_ret1_1, zr_ret1_B, zT131_15, zT131_16, zr_dup_r, zr_dup_i, zT131_17, zT131_20, zr_ic_1, zT131_21, zr_iadd, zT131_22, zr_pf_13, zT131_25, zT131_26, zcl_i, zcl_r, zcl_l, zcl_n, zv_some, zv_none, Nat.reduceAdd, Nat.reduceMul, Nat.reduceSub, Nat.reduceLT, Nat.reduceLeDiff, Nat.reduceEqDiff, Int.reduceToNat, true_implies, false_implies, implies_true, and_true, true_and, not_true_eq_false, not_false_eq_true, Nat.zero_add, Nat.add_zero, nI_add, nI_ltI, nI_leI, nI_eq, pk_mul, pk_sub, u2_same, u2_row, u2_other, hp, b, nm, olt_T, olt_F, ole_T, ole_F, oeq_T, oeq_F]
    rfl
theorem nb_le : ∀ wd, wd < 5 → nb wd ≤ 5 := by decide +kernel
/-- the numbers of an item; l is what stands already -/
theorem sp_nums_ (hf : z_FR fr) {wd it : Nat} (hwd : wd < 5) (hit : it < 40) :
    ∀ k i, i + k = nb wd → ∀ (fi : Nat → Nat → Int32) (p : Nat) (v3 : Option Value), z_Tx fi tx n → fi 84 13 = nI p → p ≤ n → fi 84 16 = nI it →
    (∀ r, a_nums tx n k p = (none, r) → ∀ fi', fi' 84 13 = nI r → (∀ f, f ≠ 13 → fi' 84 f = fi 84 f) → (∀ j, j < 5 * it + i → fi' 87 j = fi 87 j) → (∀ j, j ≠ 84 → j ≠ 87 → fi' j = fi j) → Q (some (.int (zB false))) (151, fi', fl, fr)) →
    (∀ l r, a_nums tx n k p = (some l, r) → r ≤ n → ∀ fi' v3, fi' 84 13 = nI r → (∀ f, f ≠ 13 → fi' 84 f = fi 84 f) → (∀ j, j < 5 * it + i → fi' 87 j = fi 87 j) → (∀ j x, l[j]? = some x → fi' 87 (5 * it + i + j) = nI x) → (∀ j, j ≠ 84 → j ≠ 87 → fi' j = fi j) → TT 128 74 [some (.ref 84), some (.int (nI wd)), some (.int (nI (nb wd))), v3] [] (151, fi', fl, fr) Q) →
    TT 128 33 [some (.ref 84), some (.int (nI wd)), some (.int (nI i)), v3] [] (151, fi, fl, fr) Q := by
  have o84 : z_ok 151 84 11 = true := rfl; have o86 : z_ok 151 86 1 = true := rfl; have o87 : z_ok 151 87 1 = true := rfl
  have l86 : z_al 86 = 40 := rfl; have l87 : z_al 87 = 200 := rfl
  have n5 := nb_le wd hwd
  have nbe : (z_stT 6).getD wd 0 = nb wd := rfl
  have zt : zB true = nI 1 := rfl
  have zf : zB false = nI 0 := rfl
  intro k
  induction k with
  | zero =>
    intro i hi fi p v3 ht hp hpn hit' hQ1 hQ2
    obtain rfl : i = nb wd := by omega
    have o := hQ2 [] p rfl hpn fi v3 hp (fun _ _ => rfl) (fun _ _ => rfl) (fun j x hj => absurd hj (by simp)) (fun _ _ _ => rfl)
    simp (disch := first | assumption | rfl | exact zle_0 | exact zle_1 | exact zle_2 | exact zle_3 | exact zle_4 | exact zb_0 | exact zb_1 | exact zb01_B | omega) only [zT128_33, zr_iload_2, zT128_34, zr_ldc, zs_6, zT128_37, zr_iload_1, zT128_38, zr_iald, zT128_39, zr_icmp_ge, zcl_i, zcl_r, zcl_l, zcl_n, zv_some, zv_none, Nat.reduceAdd, Nat.reduceMul, Nat.reduceSub, Nat.reduceLT, Nat.reduceLeDiff, Nat.reduceEqDiff, Int.reduceToNat, true_implies, false_implies, implies_true, and_true, true_and, not_true_eq_false, not_false_eq_true, Nat.zero_add, Nat.add_zero, nI_add, nI_ltI, nI_leI, nI_eq, pk_mul, pk_sub, u2_same, u2_row, u2_other, nbe, olt_T, olt_F, ole_T, ole_F, oeq_T, oeq_F]
    exact o
  | succ k ih =>
    intro i hi fi p v3 ht hp hpn hit' hQ1 hQ2
    have n200 := ht.1
    simp (disch := first | assumption | rfl | exact zle_0 | exact zle_1 | exact zle_2 | exact zle_3 | exact zle_4 | exact zb_0 | exact zb_1 | exact zb01_B | omega) only [zT128_33, zr_iload_2, zcl_i, zcl_r, zcl_l, zcl_n, zv_some, zv_none, Nat.reduceAdd, Nat.reduceMul, Nat.reduceSub, Nat.reduceLT, Nat.reduceLeDiff, Nat.reduceEqDiff, Int.reduceToNat, true_implies, false_implies, implies_true, and_true, true_and, not_true_eq_false, not_false_eq_true, Nat.zero_add, Nat.add_zero, nI_add, nI_ltI, nI_leI, nI_eq, pk_mul, pk_sub, u2_same, u2_row, u2_other]
    simp (disch := first | assumption | rfl | exact zle_0 | exact zle_1 | exact zle_2 | exact zle_3 | exact zle_4 | exact zb_0 | exact zb_1 | exact zb01_B | omega) only [zT128_34, zr_ldc, zs_6, zT128_37, zr_iload_1, zT128_38, zr_iald, zT128_39, zr_icmp_ge, zT128_42, zr_aload_0, zT128_43, zr_iv_130, zcl_i, zcl_r, zcl_l, zcl_n, zv_some, zv_none, Nat.reduceAdd, Nat.reduceMul, Nat.reduceSub, Nat.reduceLT, Nat.reduceLeDiff, Nat.reduceEqDiff, Int.reduceToNat, true_implies, false_implies, implies_true, and_true, true_and, not_true_eq_false, not_false_eq_true, Nat.zero_add, Nat.add_zero, nI_add, nI_ltI, nI_leI, nI_eq, pk_mul, pk_sub, u2_same, u2_row, u2_other, nbe, olt_T, olt_F, ole_T, ole_F, oeq_T, oeq_F]
    refine sp_takeNumber hf ht hp hpn (fun h1 => ?_) (fun v q h1 f1 g1 g2 g3 => ?_)
    · have o := hQ1 p (by unfold a_nums; rw [h1]) fi hp (fun _ _ => rfl) (fun _ _ => rfl) (fun _ _ _ => rfl)
      simp (disch := first | assumption | rfl | exact zle_0 | exact zle_1 | exact zle_2 | exact zle_3 | exact zle_4 | exact zb_0 | exact zb_1 | exact zb01_B | omega) only [zT128_46, zr_istore_3, zT128_47, zr_iload_3, zT128_48, zr_ic_m1, zT128_49, zr_icmp_ne, zT128_52, zr_ic_0, zT128_53, zr_ret1_0, zr_ret1_1, zr_ret1_B, zcl_i, zcl_r, zcl_l, zcl_n, zv_some, zv_none, Nat.reduceAdd, Nat.reduceMul, Nat.reduceSub, Nat.reduceLT, Nat.reduceLeDiff, Nat.reduceEqDiff, Int.reduceToNat, true_implies, false_implies, implies_true, and_true, true_and, not_true_eq_false, not_false_eq_true, Nat.zero_add, Nat.add_zero, nI_add, nI_ltI, nI_leI, nI_eq, pk_mul, pk_sub, u2_same, u2_row, u2_other, olt_T, olt_F, ole_T, ole_F, oeq_T, oeq_F]
      exact o
    · have e1 : a_nums tx n (k + 1) p = match a_nums tx n k q with
          | (none, r) => (none, r)
          | (some l, r) => (some (v :: l), r) := by
        rw [a_nums, h1]
      have vq : v < 2 ^ 31 ∧ q ≤ n := by
        unfold a_num at h1
        obtain ⟨r1, r2⟩ := ren_le (tx := tx) (lo := 48) (hi := 57) hpn
        obtain ⟨-, -, e3, -⟩ := ren_spec (tx := tx) (n := n) (lo := 48) (hi := 57) (n - p) p rfl
        by_cases c : ren tx n 48 57 p = p ∨ 2 < ren tx n 48 57 p - p
        · rw [if_pos c] at h1; exact absurd h1 (by simp)
        · rw [if_neg c] at h1
          have h2 := Option.some.inj h1
          have hv : a_val tx (ren tx n 48 57 p - p) p 0 = v := congrArg Prod.fst h2
          have hq : sk tx n (ren tx n 48 57 p) = q := congrArg Prod.snd h2
          have := (ren_le (tx := tx) (lo := 32) (hi := 32) r2).2
          refine ⟨?_, by rw [← hq]; exact this⟩
          rw [← hv]
          have c12 : ren tx n 48 57 p - p = 1 ∨ ren tx n 48 57 p - p = 2 := by omega
          have t0 := e3 p (Nat.le_refl _) (by omega)
          rcases c12 with c12 | c12
          · rw [c12]
            show 10 * 0 + tx p - 48 < _
            omega
          · have t1 := e3 (p + 1) (by omega) (by omega)
            rw [c12]
            show 10 * (10 * 0 + tx p - 48) + tx (p + 1) - 48 < _
            omega
      have nm := nM_eqI (k := 1) (a := v) (by decide) (by decide) vq.1
      have it1 : f1 84 16 = nI it := by rw [g2 _ (by decide)]; exact hit'
      have em : it * 5 + i = 5 * it + i := by omega
      have ht1 : z_Tx (u2 f1 87 (5 * it + i) (nI v)) tx n := ht.frame (by simp (disch := decide) only [u2_other]; exact g2 _ (by decide)) (by simp (disch := decide) only [u2_ne]; exact g3 85 (by decide))
      simp (disch := first | assumption | rfl | exact zle_0 | exact zle_1 | exact zle_2 | exact zle_3 | exact zle_4 | exact zb_0 | exact zb_1 | exact zb01_B | omega) only [zT128_46, zr_istore_3, zT128_47, zr_iload_3, zT128_48, zr_ic_m1, zT128_49, zr_icmp_ne, zT128_52, zr_ic_0, zT128_53, zr_ret1_0, zr_ret1_1, zr_ret1_B, zT128_54, zr_aload_0, zT128_55, zr_gf_15, zr_or, zr_go, zf_84_15, zT128_58, zT128_59, zr_gf_16, zT128_62, zr_ic_5, zT128_63, zr_imul, zT128_64, zr_iload_2, zT128_65, zr_iadd, zT128_66, zT128_67, zr_iast, zT128_68, zr_iinc_2_1, zT128_71, zr_goto, zcl_i, zcl_r, zcl_l, zcl_n, zv_some, zv_none, Nat.reduceAdd, Nat.reduceMul, Nat.reduceSub, Nat.reduceLT, Nat.reduceLeDiff, Nat.reduceEqDiff, Int.reduceToNat, true_implies, false_implies, implies_true, and_true, true_and, not_true_eq_false, not_false_eq_true, Nat.zero_add, Nat.add_zero, nI_add, nI_ltI, nI_leI, nI_eq, pk_mul, pk_sub, u2_same, u2_row, u2_other, nm, it1, em, olt_T, olt_F, ole_T, ole_F, oeq_T, oeq_F]
      refine ih (i + 1) (by omega) _ q _ ht1 (by simp (disch := decide) only [u2_other]; exact g1) vq.2 (by simp (disch := decide) only [u2_other]; exact it1) (fun r h2 f2 k1 k2 k3 k4 => hQ1 r (by rw [e1, h2]) f2 k1 (fun f hff => ?_) (fun j hj => ?_) (fun j j1 j2 => ?_)) (fun l r h2 hr f2 v3 k1 k2 k3 k4 k5 => hQ2 (v :: l) r (by rw [e1, h2]) hr f2 v3 k1 (fun f hff => ?_) (fun j hj => ?_) (fun j x hj => ?_) (fun j j1 j2 => ?_))
      · rw [k2 f hff]; simp (disch := decide) only [u2_other]; exact g2 f hff
      · rw [k3 j (by omega)]; simp (disch := omega) only [u2_row]; rw [g3 87 (by decide)]
      · rw [k4 j j1 j2]; simp (disch := omega) only [u2_ne]; exact g3 j j1
      · rw [k2 f hff]; simp (disch := decide) only [u2_other]; exact g2 f hff
      · rw [k3 j (by omega)]; simp (disch := omega) only [u2_row]; rw [g3 87 (by decide)]
      · cases j with
        | zero =>
          rw [k3 _ (by omega), Nat.add_zero, u2_same]
          have : v = x := by simpa using hj
          rw [this]
        | succ j =>
          rw [List.getElem?_cons_succ] at hj
          have := k4 j x hj
          rw [show 5 * it + i + (j + 1) = 5 * it + (i + 1) + j by omega]
          exact this
      · rw [k5 j j1 j2]; simp (disch := omega) only [u2_ne]; exact g3 j j1
end

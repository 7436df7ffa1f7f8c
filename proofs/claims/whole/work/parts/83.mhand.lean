/-! who cooks with which hand, in the model -/
def sd (x : Hd) : Nat := (if x.2.1 then 0 else 2) + (if x.2.2 then 0 else 1)
def hx_ (m : Nat) (ri : Bool) : Nat := if m = 12 then 2 else if ri then 0 else 1
def z_WL (fi : Nat → Nat → Int32) (l : List Hd) : Prop := fi 133 90 = nI l.length ∧ ∀ j x, l[j]? = some x → fi 146 j = nI (sd x) ∧ fi 144 j = nI x.1
def z_HL (fi : Nat → Nat → Int32) (hl : Nat → Nat) (n : Nat) : Prop := ∀ c, c < n → fi 145 c = nI (hl c)
theorem h_ok_set {t : Bool} {m : Nat} (h : h_ok t m) : hset m := by
  unfold hset
  rcases h with ⟨-, h⟩ | ⟨-, h⟩ <;> omega
theorem hx_lo {m : Nat} {ri sh : Bool} (h : hset m) (hc : h_can m ri sh = true) : m ^^^ (m &&& 2 ^ hx_ m ri) = h_lo m ri ∧ hx_ m ri < 3 := by
  rcases h with rfl | rfl | rfl | rfl | rfl | rfl | rfl <;> cases ri <;> cases sh <;> revert hc <;> decide
section
variable {fi fi' : Nat → Nat → Int32} {fl fl' : Nat → Nat → Int64} {fr : Nat → Nat → Option Nat} {Q : Option Value → Mm → Prop} {w : Nat → Nat} {k : Nat} {M : Mm} {ws : Nat → Nat → Nat} {nn tx : Nat → Nat} {n : Nat}
theorem z_WL.frame {l : List Hd} (h : z_WL fi l) (h1 : fi' 133 90 = fi 133 90) (h2 : fi' 146 = fi 146) (h3 : fi' 144 = fi 144) : z_WL fi' l := by
  unfold z_WL at *
  rw [h1, h2, h3]
  exact h
theorem sm_handFor (hf : z_FR fr) {m c : Nat} {x : Hd} (hm : hset m) (hc : c < 6) (h1 : fi 145 c = nI m) : TT 54 0 [some (.ref 133), some (.int (nI c)), some (.int (nI (sd x))), none, none, none] [] (151, fi, fl, fr) Q = Q (some (.int (if h_can m x.2.1 x.2.2 = true then nI (hx_ m x.2.1) else nM 1))) (151, fi, fl, fr) := by
  refine T_exact (fun Q hQ => ?_) Q
  have o133 : z_ok 151 133 20 = true := rfl; have o145 : z_ok 151 145 1 = true := rfl
  have l145 : z_al 145 = 6 := rfl
  have zt : zB true = nI 1 := rfl
  have zf : zB false = nI 0 := rfl
  obtain ⟨i, ri, sh⟩ := x
  have ha := fun M Q d hd => sm_has (M := M) (Q := Q) (b := m) (d := d) (by unfold hset at hm; omega) hd
  have b : ∀ d, d < 4 → a_bit m d = decide (m / 2 ^ d % 2 = 1) := fun d hd => rfl
  have b0 := b 0 (by decide)
  have b1 := b 1 (by decide)
  have b2 := b 2 (by decide)
  have b3 := b 3 (by decide)
  rcases hm with rfl | rfl | rfl | rfl | rfl | rfl | rfl <;> cases ri <;> cases sh <;> simp only [sd, h_can, hx_, hR, hL, hK, Nat.reducePow, Nat.reduceDiv, Nat.reduceMod, Nat.reduceEqDiff, Nat.reduceLT, decide_true, decide_false, if_true, if_false, Bool.false_eq_true, Nat.reduceAdd, Bool.cond_true, Bool.cond_false, or_true, true_or, or_false, false_or, or_self, Bool.not_true, Bool.not_false, Bool.true_and, Bool.and_true, Bool.false_and, Bool.and_false, Bool.or_true, Bool.or_false, Bool.true_or, Bool.false_or, Nat.zero_add, Nat.add_zero] at *
  all_goals
    simp (disch := first | assumption | rfl | exact zle_0 | exact zle_1 | exact zle_2 | exact zle_3 | exact zle_4 | exact zb_0 | exact zb_1 | exact zb01_B | omega) only [zT54_0, zr_aload_0, zT54_1, zr_gf_92, zr_or, zr_go, zf_133_92, zT54_4, zr_iload_1, zT54_5, zr_iald, zT54_6, zr_istore_3, zT54_7, zr_iload_2, zT54_8, zr_if_eq, zT54_11, zT54_12, zr_ic_2, zT54_13, zr_icmp_ne, zT54_16, zr_ic_1, zT54_17, zr_goto, zT54_20, zr_ic_0, zT54_21, zr_istore_4, zT54_23, zT54_24, zT54_25, zr_icmp_ge, zT54_28, zT54_29, zT54_32, zT54_33, zr_istore_5, zT54_35, zr_iload_4, zT54_37, zT54_40, zr_iload_3, zT54_41, zr_ic_3, zT54_42, zr_iv_5, zT54_45, zT54_48, zr_ic_m1, zT54_49, zT54_52, zT54_53, zr_iload_5, zT54_55, zT54_58, zT54_61, zT54_63, zT54_66, zT54_67, zT54_68, zT54_71, zT54_74, zT54_75, zT54_78, zT54_79, zr_ret0, zcl_i, zcl_r, zcl_l, zcl_n, zv_some, zv_none, Nat.reduceAdd, Nat.reduceMul, Nat.reduceSub, Nat.reduceLT, Nat.reduceLeDiff, Nat.reduceEqDiff, Int.reduceToNat, true_implies, false_implies, implies_true, and_true, true_and, not_true_eq_false, not_false_eq_true, Nat.zero_add, Nat.add_zero, nI_add, nI_ltI, nI_leI, nI_eq, pk_mul, pk_sub, u2_same, u2_row, u2_other, ha, b0, b1, b2, b3, zt, zf, h1, zB_eq0]
    exact hQ
end

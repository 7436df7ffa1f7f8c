/-! the script, and the law's invariant -/
theorem zr_slen {n pc : Nat} {Lo_ : Lo} {r : List Value} {f : Nat → Nat → Int32} {l : Nat → Nat → Int64} {fr : Nat → Nat → Option Nat} {y pn : Nat} {M : Mm} {Q : Option Value → Mm → Prop} {LL : Nat} {xs : Nat → Int32} (hL : LL ≤ 3072) (h : f 0 = z_g LL xs) : TR (z_st .arraylength n pc Lo_ (.ref 0 :: r) (151, f, l, fr)) y pn M Q = TT y (pc + n) Lo_ (.int (nI LL) :: r) (151, f, l, fr) Q := by
  have e : z_len (151, f, l, fr) 0 = LL := by
    show (f 0 100000).toNatClampNeg = LL
    rw [h]
    show (nI LL).toNatClampNeg = LL
    exact nI_clamp (by omega)
  show TR (z_if (Nat.blt 0 151 && (Nat.ble 1 (z_kd 0) && Nat.ble (z_kd 0) 9 && !Nat.beq (z_kd 0) 8)) (z_go (pc + n) Lo_ (.int (Int32.ofNat (z_len (151, f, l, fr) 0)) :: r) (151, f, l, fr))) y pn M Q = _
  rw [e]
  rfl
theorem zr_sld {n pc : Nat} {Lo_ : Lo} {r : List Value} {f : Nat → Nat → Int32} {l : Nat → Nat → Int64} {fr : Nat → Nat → Option Nat} {y pn : Nat} {M : Mm} {Q : Option Value → Mm → Prop} {LL : Nat} {xs : Nat → Int32} (hL : LL ≤ 3072) (h : f 0 = z_g LL xs) {i : Nat} (hi : i < LL) : TR (z_st .iaload n pc Lo_ (.int (nI i) :: .ref 0 :: r) (151, f, l, fr)) y pn M Q = TT y (pc + n) Lo_ (.int (xs i) :: r) (151, f, l, fr) Q := by
  have e : z_len (151, f, l, fr) 0 = LL := by
    show (f 0 100000).toNatClampNeg = LL
    rw [h]
    show (nI LL).toNatClampNeg = LL
    exact nI_clamp (by omega)
  have e2 := z_inb_nI hi (by omega)
  have e3 : f 0 i = xs i := by
    rw [h]
    unfold z_g
    rw [if_neg (by omega)]
  have e4 : z_ia (151, f, l, fr) 0 i = xs i := by rw [z_ia_of (nx := 151) (k := 9) rfl (by decide) (by decide)]; exact e3
  show TR (z_if ((z_ok 151 0 1 || z_ok 151 0 6 || z_ok 151 0 9) && z_inb (nI i) (z_len (151, f, l, fr) 0)) (z_go (pc + n) Lo_ (.int (z_ia (151, f, l, fr) 0 (nI i).toNatClampNeg) :: r) (151, f, l, fr))) y pn M Q = _
  rw [e, e2, nI_clamp (by omega), e4]
  rfl
section
variable {fi fi' : Nat → Nat → Int32} {fl fl' : Nat → Nat → Int64} {fr : Nat → Nat → Option Nat} {Q : Option Value → Mm → Prop} {w : Nat → Nat} {ws : Nat → Nat → Nat} {nn tx : Nat → Nat}
theorem z_XS.lo (h : z_XS fi ws nn tx) (hj : ∀ j, j < 133 → fi' j = fi j) : z_XS fi' ws nn tx := by
  obtain ⟨hk, hc, hF, ht, hp⟩ := h
  refine ⟨hk.frame (fun j h => hj j (by omega)), ?_, hF.frame (fun j j1 j2 => hj j (by omega)), ht.frame (by rw [hj 84 (by omega)]) (hj 85 (by omega)), hp.frame (fun j j1 j2 => hj j (by omega))⟩
  unfold z_XC at *
  rw [hj 18 (by omega)]
  exact hc
theorem z_MS.hi (h : z_MS fi fl ws nn tx) (hj : ∀ j, 133 ≤ j → fi' j = fi j) : z_MS fi' fl ws nn tx := by
  obtain ⟨hk, hc, ht, hA, hB⟩ := h
  refine ⟨hk.frame (hj 134 (by decide)) (hj 135 (by decide)), ?_, ?_, ?_, ?_⟩
  · unfold z_MC at *; rw [hj 137 (by decide)]; exact hc
  · unfold z_MT at *; rw [hj 133 (by decide), hj 136 (by decide)]; exact ht
  · unfold z_ML at *; rw [hj 133 (by decide)]; exact hA
  · unfold z_ML at *; rw [hj 133 (by decide)]; exact hB
/-- what holds between two calls -/
def z_Lw (LL : Nat) (xs : Nat → Int32) (fi : Nat → Nat → Int32) (fl : Nat → Nat → Int64) : Prop := ∃ ws nn tx, z_XS fi ws nn tx ∧ z_MS fi fl ws nn tx ∧ z_G ws nn ∧ fi 0 = z_g LL xs
/-- the law goes on when the two sides' answers are the same -/
def z_Ln (LL : Nat) (xs : Nat → Int32) (i : Nat) (fr : Nat → Nat → Option Nat) (Q : Option Value → Mm → Prop) : Prop := ∀ f l, z_Lw LL xs f l → TT 0 952 [some (.ref 0), some (.ref 18), some (.ref 133), some (.int (nI i))] [] (151, f, l, fr) Q
/-- counting a refusal keeps all that the calls need -/
theorem z_G.cg {nn' : Nat → Nat} (h : z_G ws nn) (e : ∀ j, j = 0 ∨ j = 1 ∨ j = 2 → nn' j = nn j) : z_G ws nn' := by
  unfold z_G at *
  rw [e 0 (by omega), e 1 (by omega), e 2 (by omega)]
  exact h
theorem z_G.note (h : z_G ws nn) {a : Int32} : z_G ws (o_note a nn) := by
  refine h.cg (fun j hj => ?_)
  unfold o_note
  repeat' split
  all_goals first | rfl | exact uh_ne (by omega)
theorem z_G.refu (h : z_G ws nn) {r : Nat} (hr : 2 ≤ r) : z_G ws (rf nn r) := h.cg (fun j hj => uh_ne (by omega))
theorem z_G.frac (h : z_G ws nn) {A B : Nat} : z_G ws (nf6 nn A B) := h.cg (fun j hj => by unfold nf6; rw [uh_ne (by omega), uh_ne (by omega)])
theorem z_G.kit (h : z_G ws nn) (hw : a_W w) : z_G (uw ws w) nn := by
  obtain ⟨-, h1, h2, h3, h4, h5⟩ := h
  exact ⟨hw, h1, h2, h3, h4, h5⟩
end

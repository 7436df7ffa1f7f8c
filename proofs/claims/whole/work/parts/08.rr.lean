def nM (k : Nat) : Int32 := Int32.ofInt (-(k : Int))
def zB (b : Bool) : Int32 := cond b (nI 1) (nI 0)
def z_le4 : List Value → Bool
  | [] => true
  | [_] => true
  | [_, _] => true
  | [_, _, _] => true
  | [_, _, _, _] => true
  | _ => false
theorem z_le4_ble {r : List Value} (h : z_le4 r = true) : Nat.ble r.length 4 = true := by
  unfold z_le4 at h
  split at h <;> first | rfl | cases h
section
variable {L : Lo} {S r : List Value} {M : Mm} {Q : Option Value → Mm → Prop} {y pn n pc nx a : Nat} {fi : Nat → Nat → Int32} {fl : Nat → Nat → Int64} {fr : Nat → Nat → Option Nat}
theorem zr_ic_m1000 : TR (z_st (.iconst (-1000)) n pc L S M) y pn M Q = TT y (pc + n) L (.int (nM 1000) :: S) M Q := by
  have h : Int32.ofInt (-1000) = nM 1000 := by decide +kernel
  show TT y (pc + n) L (.int (Int32.ofInt (-1000)) :: S) M Q = _
  rw [h]
theorem zr_ic_m20 : TR (z_st (.iconst (-20)) n pc L S M) y pn M Q = TT y (pc + n) L (.int (nM 20) :: S) M Q := by
  have h : Int32.ofInt (-20) = nM 20 := by decide +kernel
  show TT y (pc + n) L (.int (Int32.ofInt (-20)) :: S) M Q = _
  rw [h]
theorem zr_ic_m10 : TR (z_st (.iconst (-10)) n pc L S M) y pn M Q = TT y (pc + n) L (.int (nM 10) :: S) M Q := by
  have h : Int32.ofInt (-10) = nM 10 := by decide +kernel
  show TT y (pc + n) L (.int (Int32.ofInt (-10)) :: S) M Q = _
  rw [h]
theorem zr_ic_m5 : TR (z_st (.iconst (-5)) n pc L S M) y pn M Q = TT y (pc + n) L (.int (nM 5) :: S) M Q := by
  have h : Int32.ofInt (-5) = nM 5 := by decide +kernel
  show TT y (pc + n) L (.int (Int32.ofInt (-5)) :: S) M Q = _
  rw [h]
theorem zr_ic_m4 : TR (z_st (.iconst (-4)) n pc L S M) y pn M Q = TT y (pc + n) L (.int (nM 4) :: S) M Q := by
  have h : Int32.ofInt (-4) = nM 4 := by decide +kernel
  show TT y (pc + n) L (.int (Int32.ofInt (-4)) :: S) M Q = _
  rw [h]
theorem zr_ic_m3 : TR (z_st (.iconst (-3)) n pc L S M) y pn M Q = TT y (pc + n) L (.int (nM 3) :: S) M Q := by
  have h : Int32.ofInt (-3) = nM 3 := by decide +kernel
  show TT y (pc + n) L (.int (Int32.ofInt (-3)) :: S) M Q = _
  rw [h]
theorem zr_ic_m2 : TR (z_st (.iconst (-2)) n pc L S M) y pn M Q = TT y (pc + n) L (.int (nM 2) :: S) M Q := by
  have h : Int32.ofInt (-2) = nM 2 := by decide +kernel
  show TT y (pc + n) L (.int (Int32.ofInt (-2)) :: S) M Q = _
  rw [h]
theorem zr_ic_m1 : TR (z_st (.iconst (-1)) n pc L S M) y pn M Q = TT y (pc + n) L (.int (nM 1) :: S) M Q := by
  have h : Int32.ofInt (-1) = nM 1 := by decide +kernel
  show TT y (pc + n) L (.int (Int32.ofInt (-1)) :: S) M Q = _
  rw [h]
theorem zr_ic_0 : TR (z_st (.iconst 0) n pc L S M) y pn M Q = TT y (pc + n) L (.int (nI 0) :: S) M Q := by
  have h : Int32.ofInt 0 = nI 0 := by decide +kernel
  show TT y (pc + n) L (.int (Int32.ofInt 0) :: S) M Q = _
  rw [h]
theorem zr_ic_1 : TR (z_st (.iconst 1) n pc L S M) y pn M Q = TT y (pc + n) L (.int (nI 1) :: S) M Q := by
  have h : Int32.ofInt 1 = nI 1 := by decide +kernel
  show TT y (pc + n) L (.int (Int32.ofInt 1) :: S) M Q = _
  rw [h]
theorem zr_ic_2 : TR (z_st (.iconst 2) n pc L S M) y pn M Q = TT y (pc + n) L (.int (nI 2) :: S) M Q := by
  have h : Int32.ofInt 2 = nI 2 := by decide +kernel
  show TT y (pc + n) L (.int (Int32.ofInt 2) :: S) M Q = _
  rw [h]
theorem zr_ic_3 : TR (z_st (.iconst 3) n pc L S M) y pn M Q = TT y (pc + n) L (.int (nI 3) :: S) M Q := by
  have h : Int32.ofInt 3 = nI 3 := by decide +kernel
  show TT y (pc + n) L (.int (Int32.ofInt 3) :: S) M Q = _
  rw [h]
theorem zr_ic_4 : TR (z_st (.iconst 4) n pc L S M) y pn M Q = TT y (pc + n) L (.int (nI 4) :: S) M Q := by
  have h : Int32.ofInt 4 = nI 4 := by decide +kernel
  show TT y (pc + n) L (.int (Int32.ofInt 4) :: S) M Q = _
  rw [h]
theorem zr_ic_5 : TR (z_st (.iconst 5) n pc L S M) y pn M Q = TT y (pc + n) L (.int (nI 5) :: S) M Q := by
  have h : Int32.ofInt 5 = nI 5 := by decide +kernel
  show TT y (pc + n) L (.int (Int32.ofInt 5) :: S) M Q = _
  rw [h]
theorem zr_ic_6 : TR (z_st (.iconst 6) n pc L S M) y pn M Q = TT y (pc + n) L (.int (nI 6) :: S) M Q := by
  have h : Int32.ofInt 6 = nI 6 := by decide +kernel
  show TT y (pc + n) L (.int (Int32.ofInt 6) :: S) M Q = _
  rw [h]
theorem zr_ic_7 : TR (z_st (.iconst 7) n pc L S M) y pn M Q = TT y (pc + n) L (.int (nI 7) :: S) M Q := by
  have h : Int32.ofInt 7 = nI 7 := by decide +kernel
  show TT y (pc + n) L (.int (Int32.ofInt 7) :: S) M Q = _
  rw [h]
theorem zr_ic_8 : TR (z_st (.iconst 8) n pc L S M) y pn M Q = TT y (pc + n) L (.int (nI 8) :: S) M Q := by
  have h : Int32.ofInt 8 = nI 8 := by decide +kernel
  show TT y (pc + n) L (.int (Int32.ofInt 8) :: S) M Q = _
  rw [h]
theorem zr_ic_9 : TR (z_st (.iconst 9) n pc L S M) y pn M Q = TT y (pc + n) L (.int (nI 9) :: S) M Q := by
  have h : Int32.ofInt 9 = nI 9 := by decide +kernel
  show TT y (pc + n) L (.int (Int32.ofInt 9) :: S) M Q = _
  rw [h]
theorem zr_ic_10 : TR (z_st (.iconst 10) n pc L S M) y pn M Q = TT y (pc + n) L (.int (nI 10) :: S) M Q := by
  have h : Int32.ofInt 10 = nI 10 := by decide +kernel
  show TT y (pc + n) L (.int (Int32.ofInt 10) :: S) M Q = _
  rw [h]
theorem zr_ic_12 : TR (z_st (.iconst 12) n pc L S M) y pn M Q = TT y (pc + n) L (.int (nI 12) :: S) M Q := by
  have h : Int32.ofInt 12 = nI 12 := by decide +kernel
  show TT y (pc + n) L (.int (Int32.ofInt 12) :: S) M Q = _
  rw [h]
theorem zr_ic_13 : TR (z_st (.iconst 13) n pc L S M) y pn M Q = TT y (pc + n) L (.int (nI 13) :: S) M Q := by
  have h : Int32.ofInt 13 = nI 13 := by decide +kernel
  show TT y (pc + n) L (.int (Int32.ofInt 13) :: S) M Q = _
  rw [h]
theorem zr_ic_14 : TR (z_st (.iconst 14) n pc L S M) y pn M Q = TT y (pc + n) L (.int (nI 14) :: S) M Q := by
  have h : Int32.ofInt 14 = nI 14 := by decide +kernel
  show TT y (pc + n) L (.int (Int32.ofInt 14) :: S) M Q = _
  rw [h]
theorem zr_ic_15 : TR (z_st (.iconst 15) n pc L S M) y pn M Q = TT y (pc + n) L (.int (nI 15) :: S) M Q := by
  have h : Int32.ofInt 15 = nI 15 := by decide +kernel
  show TT y (pc + n) L (.int (Int32.ofInt 15) :: S) M Q = _
  rw [h]
theorem zr_ic_16 : TR (z_st (.iconst 16) n pc L S M) y pn M Q = TT y (pc + n) L (.int (nI 16) :: S) M Q := by
  have h : Int32.ofInt 16 = nI 16 := by decide +kernel
  show TT y (pc + n) L (.int (Int32.ofInt 16) :: S) M Q = _
  rw [h]
theorem zr_ic_17 : TR (z_st (.iconst 17) n pc L S M) y pn M Q = TT y (pc + n) L (.int (nI 17) :: S) M Q := by
  have h : Int32.ofInt 17 = nI 17 := by decide +kernel
  show TT y (pc + n) L (.int (Int32.ofInt 17) :: S) M Q = _
  rw [h]
theorem zr_ic_18 : TR (z_st (.iconst 18) n pc L S M) y pn M Q = TT y (pc + n) L (.int (nI 18) :: S) M Q := by
  have h : Int32.ofInt 18 = nI 18 := by decide +kernel
  show TT y (pc + n) L (.int (Int32.ofInt 18) :: S) M Q = _
  rw [h]
theorem zr_ic_20 : TR (z_st (.iconst 20) n pc L S M) y pn M Q = TT y (pc + n) L (.int (nI 20) :: S) M Q := by
  have h : Int32.ofInt 20 = nI 20 := by decide +kernel
  show TT y (pc + n) L (.int (Int32.ofInt 20) :: S) M Q = _
  rw [h]
theorem zr_ic_30 : TR (z_st (.iconst 30) n pc L S M) y pn M Q = TT y (pc + n) L (.int (nI 30) :: S) M Q := by
  have h : Int32.ofInt 30 = nI 30 := by decide +kernel
  show TT y (pc + n) L (.int (Int32.ofInt 30) :: S) M Q = _
  rw [h]
theorem zr_ic_31 : TR (z_st (.iconst 31) n pc L S M) y pn M Q = TT y (pc + n) L (.int (nI 31) :: S) M Q := by
  have h : Int32.ofInt 31 = nI 31 := by decide +kernel
  show TT y (pc + n) L (.int (Int32.ofInt 31) :: S) M Q = _
  rw [h]
theorem zr_ic_32 : TR (z_st (.iconst 32) n pc L S M) y pn M Q = TT y (pc + n) L (.int (nI 32) :: S) M Q := by
  have h : Int32.ofInt 32 = nI 32 := by decide +kernel
  show TT y (pc + n) L (.int (Int32.ofInt 32) :: S) M Q = _
  rw [h]
theorem zr_ic_40 : TR (z_st (.iconst 40) n pc L S M) y pn M Q = TT y (pc + n) L (.int (nI 40) :: S) M Q := by
  have h : Int32.ofInt 40 = nI 40 := by decide +kernel
  show TT y (pc + n) L (.int (Int32.ofInt 40) :: S) M Q = _
  rw [h]
theorem zr_ic_45 : TR (z_st (.iconst 45) n pc L S M) y pn M Q = TT y (pc + n) L (.int (nI 45) :: S) M Q := by
  have h : Int32.ofInt 45 = nI 45 := by decide +kernel
  show TT y (pc + n) L (.int (Int32.ofInt 45) :: S) M Q = _
  rw [h]
theorem zr_ic_48 : TR (z_st (.iconst 48) n pc L S M) y pn M Q = TT y (pc + n) L (.int (nI 48) :: S) M Q := by
  have h : Int32.ofInt 48 = nI 48 := by decide +kernel
  show TT y (pc + n) L (.int (Int32.ofInt 48) :: S) M Q = _
  rw [h]
theorem zr_ic_50 : TR (z_st (.iconst 50) n pc L S M) y pn M Q = TT y (pc + n) L (.int (nI 50) :: S) M Q := by
  have h : Int32.ofInt 50 = nI 50 := by decide +kernel
  show TT y (pc + n) L (.int (Int32.ofInt 50) :: S) M Q = _
  rw [h]
theorem zr_ic_53 : TR (z_st (.iconst 53) n pc L S M) y pn M Q = TT y (pc + n) L (.int (nI 53) :: S) M Q := by
  have h : Int32.ofInt 53 = nI 53 := by decide +kernel
  show TT y (pc + n) L (.int (Int32.ofInt 53) :: S) M Q = _
  rw [h]
theorem zr_ic_54 : TR (z_st (.iconst 54) n pc L S M) y pn M Q = TT y (pc + n) L (.int (nI 54) :: S) M Q := by
  have h : Int32.ofInt 54 = nI 54 := by decide +kernel
  show TT y (pc + n) L (.int (Int32.ofInt 54) :: S) M Q = _
  rw [h]
theorem zr_ic_55 : TR (z_st (.iconst 55) n pc L S M) y pn M Q = TT y (pc + n) L (.int (nI 55) :: S) M Q := by
  have h : Int32.ofInt 55 = nI 55 := by decide +kernel
  show TT y (pc + n) L (.int (Int32.ofInt 55) :: S) M Q = _
  rw [h]
theorem zr_ic_56 : TR (z_st (.iconst 56) n pc L S M) y pn M Q = TT y (pc + n) L (.int (nI 56) :: S) M Q := by
  have h : Int32.ofInt 56 = nI 56 := by decide +kernel
  show TT y (pc + n) L (.int (Int32.ofInt 56) :: S) M Q = _
  rw [h]
theorem zr_ic_57 : TR (z_st (.iconst 57) n pc L S M) y pn M Q = TT y (pc + n) L (.int (nI 57) :: S) M Q := by
  have h : Int32.ofInt 57 = nI 57 := by decide +kernel
  show TT y (pc + n) L (.int (Int32.ofInt 57) :: S) M Q = _
  rw [h]
theorem zr_ic_58 : TR (z_st (.iconst 58) n pc L S M) y pn M Q = TT y (pc + n) L (.int (nI 58) :: S) M Q := by
  have h : Int32.ofInt 58 = nI 58 := by decide +kernel
  show TT y (pc + n) L (.int (Int32.ofInt 58) :: S) M Q = _
  rw [h]
theorem zr_ic_59 : TR (z_st (.iconst 59) n pc L S M) y pn M Q = TT y (pc + n) L (.int (nI 59) :: S) M Q := by
  have h : Int32.ofInt 59 = nI 59 := by decide +kernel
  show TT y (pc + n) L (.int (Int32.ofInt 59) :: S) M Q = _
  rw [h]
theorem zr_ic_60 : TR (z_st (.iconst 60) n pc L S M) y pn M Q = TT y (pc + n) L (.int (nI 60) :: S) M Q := by
  have h : Int32.ofInt 60 = nI 60 := by decide +kernel
  show TT y (pc + n) L (.int (Int32.ofInt 60) :: S) M Q = _
  rw [h]
theorem zr_ic_63 : TR (z_st (.iconst 63) n pc L S M) y pn M Q = TT y (pc + n) L (.int (nI 63) :: S) M Q := by
  have h : Int32.ofInt 63 = nI 63 := by decide +kernel
  show TT y (pc + n) L (.int (Int32.ofInt 63) :: S) M Q = _
  rw [h]
theorem zr_ic_64 : TR (z_st (.iconst 64) n pc L S M) y pn M Q = TT y (pc + n) L (.int (nI 64) :: S) M Q := by
  have h : Int32.ofInt 64 = nI 64 := by decide +kernel
  show TT y (pc + n) L (.int (Int32.ofInt 64) :: S) M Q = _
  rw [h]
theorem zr_ic_97 : TR (z_st (.iconst 97) n pc L S M) y pn M Q = TT y (pc + n) L (.int (nI 97) :: S) M Q := by
  have h : Int32.ofInt 97 = nI 97 := by decide +kernel
  show TT y (pc + n) L (.int (Int32.ofInt 97) :: S) M Q = _
  rw [h]
theorem zr_ic_110 : TR (z_st (.iconst 110) n pc L S M) y pn M Q = TT y (pc + n) L (.int (nI 110) :: S) M Q := by
  have h : Int32.ofInt 110 = nI 110 := by decide +kernel
  show TT y (pc + n) L (.int (Int32.ofInt 110) :: S) M Q = _
  rw [h]
theorem zr_ic_122 : TR (z_st (.iconst 122) n pc L S M) y pn M Q = TT y (pc + n) L (.int (nI 122) :: S) M Q := by
  have h : Int32.ofInt 122 = nI 122 := by decide +kernel
  show TT y (pc + n) L (.int (Int32.ofInt 122) :: S) M Q = _
  rw [h]
theorem zr_ic_135 : TR (z_st (.iconst 135) n pc L S M) y pn M Q = TT y (pc + n) L (.int (nI 135) :: S) M Q := by
  have h : Int32.ofInt 135 = nI 135 := by decide +kernel
  show TT y (pc + n) L (.int (Int32.ofInt 135) :: S) M Q = _
  rw [h]
theorem zr_ic_200 : TR (z_st (.iconst 200) n pc L S M) y pn M Q = TT y (pc + n) L (.int (nI 200) :: S) M Q := by
  have h : Int32.ofInt 200 = nI 200 := by decide +kernel
  show TT y (pc + n) L (.int (Int32.ofInt 200) :: S) M Q = _
  rw [h]
theorem zr_ic_250 : TR (z_st (.iconst 250) n pc L S M) y pn M Q = TT y (pc + n) L (.int (nI 250) :: S) M Q := by
  have h : Int32.ofInt 250 = nI 250 := by decide +kernel
  show TT y (pc + n) L (.int (Int32.ofInt 250) :: S) M Q = _
  rw [h]
theorem zr_ic_255 : TR (z_st (.iconst 255) n pc L S M) y pn M Q = TT y (pc + n) L (.int (nI 255) :: S) M Q := by
  have h : Int32.ofInt 255 = nI 255 := by decide +kernel
  show TT y (pc + n) L (.int (Int32.ofInt 255) :: S) M Q = _
  rw [h]
theorem zr_ic_256 : TR (z_st (.iconst 256) n pc L S M) y pn M Q = TT y (pc + n) L (.int (nI 256) :: S) M Q := by
  have h : Int32.ofInt 256 = nI 256 := by decide +kernel
  show TT y (pc + n) L (.int (Int32.ofInt 256) :: S) M Q = _
  rw [h]
theorem zr_ic_330 : TR (z_st (.iconst 330) n pc L S M) y pn M Q = TT y (pc + n) L (.int (nI 330) :: S) M Q := by
  have h : Int32.ofInt 330 = nI 330 := by decide +kernel
  show TT y (pc + n) L (.int (Int32.ofInt 330) :: S) M Q = _
  rw [h]
theorem zr_ic_383 : TR (z_st (.iconst 383) n pc L S M) y pn M Q = TT y (pc + n) L (.int (nI 383) :: S) M Q := by
  have h : Int32.ofInt 383 = nI 383 := by decide +kernel
  show TT y (pc + n) L (.int (Int32.ofInt 383) :: S) M Q = _
  rw [h]
theorem zr_ic_440 : TR (z_st (.iconst 440) n pc L S M) y pn M Q = TT y (pc + n) L (.int (nI 440) :: S) M Q := by
  have h : Int32.ofInt 440 = nI 440 := by decide +kernel
  show TT y (pc + n) L (.int (Int32.ofInt 440) :: S) M Q = _
  rw [h]
theorem zr_ic_1000 : TR (z_st (.iconst 1000) n pc L S M) y pn M Q = TT y (pc + n) L (.int (nI 1000) :: S) M Q := by
  have h : Int32.ofInt 1000 = nI 1000 := by decide +kernel
  show TT y (pc + n) L (.int (Int32.ofInt 1000) :: S) M Q = _
  rw [h]
theorem zr_ic_4095 : TR (z_st (.iconst 4095) n pc L S M) y pn M Q = TT y (pc + n) L (.int (nI 4095) :: S) M Q := by
  have h : Int32.ofInt 4095 = nI 4095 := by decide +kernel
  show TT y (pc + n) L (.int (Int32.ofInt 4095) :: S) M Q = _
  rw [h]
theorem zr_ic_4096 : TR (z_st (.iconst 4096) n pc L S M) y pn M Q = TT y (pc + n) L (.int (nI 4096) :: S) M Q := by
  have h : Int32.ofInt 4096 = nI 4096 := by decide +kernel
  show TT y (pc + n) L (.int (Int32.ofInt 4096) :: S) M Q = _
  rw [h]
theorem zr_ic_100000 : TR (z_st (.iconst 100000) n pc L S M) y pn M Q = TT y (pc + n) L (.int (nI 100000) :: S) M Q := by
  have h : Int32.ofInt 100000 = nI 100000 := by decide +kernel
  show TT y (pc + n) L (.int (Int32.ofInt 100000) :: S) M Q = _
  rw [h]
theorem zr_ic_999999 : TR (z_st (.iconst 999999) n pc L S M) y pn M Q = TT y (pc + n) L (.int (nI 999999) :: S) M Q := by
  have h : Int32.ofInt 999999 = nI 999999 := by decide +kernel
  show TT y (pc + n) L (.int (Int32.ofInt 999999) :: S) M Q = _
  rw [h]
theorem zr_ic_1000000 : TR (z_st (.iconst 1000000) n pc L S M) y pn M Q = TT y (pc + n) L (.int (nI 1000000) :: S) M Q := by
  have h : Int32.ofInt 1000000 = nI 1000000 := by decide +kernel
  show TT y (pc + n) L (.int (Int32.ofInt 1000000) :: S) M Q = _
  rw [h]
theorem zr_ic_252645135 : TR (z_st (.iconst 252645135) n pc L S M) y pn M Q = TT y (pc + n) L (.int (nI 252645135) :: S) M Q := by
  have h : Int32.ofInt 252645135 = nI 252645135 := by decide +kernel
  show TT y (pc + n) L (.int (Int32.ofInt 252645135) :: S) M Q = _
  rw [h]
theorem zr_ic_858993459 : TR (z_st (.iconst 858993459) n pc L S M) y pn M Q = TT y (pc + n) L (.int (nI 858993459) :: S) M Q := by
  have h : Int32.ofInt 858993459 = nI 858993459 := by decide +kernel
  show TT y (pc + n) L (.int (Int32.ofInt 858993459) :: S) M Q = _
  rw [h]
theorem zr_ic_1431655765 : TR (z_st (.iconst 1431655765) n pc L S M) y pn M Q = TT y (pc + n) L (.int (nI 1431655765) :: S) M Q := by
  have h : Int32.ofInt 1431655765 = nI 1431655765 := by decide +kernel
  show TT y (pc + n) L (.int (Int32.ofInt 1431655765) :: S) M Q = _
  rw [h]
theorem zr_ldc2 {k : Nat} : TR (z_st (.ldc2_w k) n pc L S M) y pn M Q = TT y (pc + n) L (.long (lN k) :: S) M Q := rfl
theorem zr_ldc {k : Nat} : TR (z_st (.ldc k) n pc L S M) y pn M Q = TT y (pc + n) L (.ref k :: S) M Q := rfl
theorem zr_iload_0 {x : Int32} : TR (z_st (.iload 0) n pc (some (.int x) :: L) S M) y pn M Q = TT y (pc + n) (some (.int x) :: L) (.int x :: S) M Q := rfl
theorem zr_lload_0 {x : Int64} : TR (z_st (.lload 0) n pc (some (.long x) :: L) S M) y pn M Q = TT y (pc + n) (some (.long x) :: L) (.long x :: S) M Q := rfl
theorem zr_aload_0 {x : Nat} : TR (z_st (.aload 0) n pc (some (.ref x) :: L) S M) y pn M Q = TT y (pc + n) (some (.ref x) :: L) (.ref x :: S) M Q := rfl
theorem zr_iload_1 {a0 : Option Value} {x : Int32} : TR (z_st (.iload 1) n pc (a0 :: some (.int x) :: L) S M) y pn M Q = TT y (pc + n) (a0 :: some (.int x) :: L) (.int x :: S) M Q := rfl
theorem zr_lload_1 {a0 : Option Value} {x : Int64} : TR (z_st (.lload 1) n pc (a0 :: some (.long x) :: L) S M) y pn M Q = TT y (pc + n) (a0 :: some (.long x) :: L) (.long x :: S) M Q := rfl
theorem zr_aload_1 {a0 : Option Value} {x : Nat} : TR (z_st (.aload 1) n pc (a0 :: some (.ref x) :: L) S M) y pn M Q = TT y (pc + n) (a0 :: some (.ref x) :: L) (.ref x :: S) M Q := rfl
theorem zr_iload_2 {a0 a1 : Option Value} {x : Int32} : TR (z_st (.iload 2) n pc (a0 :: a1 :: some (.int x) :: L) S M) y pn M Q = TT y (pc + n) (a0 :: a1 :: some (.int x) :: L) (.int x :: S) M Q := rfl
theorem zr_lload_2 {a0 a1 : Option Value} {x : Int64} : TR (z_st (.lload 2) n pc (a0 :: a1 :: some (.long x) :: L) S M) y pn M Q = TT y (pc + n) (a0 :: a1 :: some (.long x) :: L) (.long x :: S) M Q := rfl
theorem zr_aload_2 {a0 a1 : Option Value} {x : Nat} : TR (z_st (.aload 2) n pc (a0 :: a1 :: some (.ref x) :: L) S M) y pn M Q = TT y (pc + n) (a0 :: a1 :: some (.ref x) :: L) (.ref x :: S) M Q := rfl
theorem zr_iload_3 {a0 a1 a2 : Option Value} {x : Int32} : TR (z_st (.iload 3) n pc (a0 :: a1 :: a2 :: some (.int x) :: L) S M) y pn M Q = TT y (pc + n) (a0 :: a1 :: a2 :: some (.int x) :: L) (.int x :: S) M Q := rfl
theorem zr_lload_3 {a0 a1 a2 : Option Value} {x : Int64} : TR (z_st (.lload 3) n pc (a0 :: a1 :: a2 :: some (.long x) :: L) S M) y pn M Q = TT y (pc + n) (a0 :: a1 :: a2 :: some (.long x) :: L) (.long x :: S) M Q := rfl
theorem zr_aload_3 {a0 a1 a2 : Option Value} {x : Nat} : TR (z_st (.aload 3) n pc (a0 :: a1 :: a2 :: some (.ref x) :: L) S M) y pn M Q = TT y (pc + n) (a0 :: a1 :: a2 :: some (.ref x) :: L) (.ref x :: S) M Q := rfl
theorem zr_iload_4 {a0 a1 a2 a3 : Option Value} {x : Int32} : TR (z_st (.iload 4) n pc (a0 :: a1 :: a2 :: a3 :: some (.int x) :: L) S M) y pn M Q = TT y (pc + n) (a0 :: a1 :: a2 :: a3 :: some (.int x) :: L) (.int x :: S) M Q := rfl
theorem zr_lload_4 {a0 a1 a2 a3 : Option Value} {x : Int64} : TR (z_st (.lload 4) n pc (a0 :: a1 :: a2 :: a3 :: some (.long x) :: L) S M) y pn M Q = TT y (pc + n) (a0 :: a1 :: a2 :: a3 :: some (.long x) :: L) (.long x :: S) M Q := rfl
theorem zr_aload_4 {a0 a1 a2 a3 : Option Value} {x : Nat} : TR (z_st (.aload 4) n pc (a0 :: a1 :: a2 :: a3 :: some (.ref x) :: L) S M) y pn M Q = TT y (pc + n) (a0 :: a1 :: a2 :: a3 :: some (.ref x) :: L) (.ref x :: S) M Q := rfl
theorem zr_iload_5 {a0 a1 a2 a3 a4 : Option Value} {x : Int32} : TR (z_st (.iload 5) n pc (a0 :: a1 :: a2 :: a3 :: a4 :: some (.int x) :: L) S M) y pn M Q = TT y (pc + n) (a0 :: a1 :: a2 :: a3 :: a4 :: some (.int x) :: L) (.int x :: S) M Q := rfl
theorem zr_lload_5 {a0 a1 a2 a3 a4 : Option Value} {x : Int64} : TR (z_st (.lload 5) n pc (a0 :: a1 :: a2 :: a3 :: a4 :: some (.long x) :: L) S M) y pn M Q = TT y (pc + n) (a0 :: a1 :: a2 :: a3 :: a4 :: some (.long x) :: L) (.long x :: S) M Q := rfl
theorem zr_aload_5 {a0 a1 a2 a3 a4 : Option Value} {x : Nat} : TR (z_st (.aload 5) n pc (a0 :: a1 :: a2 :: a3 :: a4 :: some (.ref x) :: L) S M) y pn M Q = TT y (pc + n) (a0 :: a1 :: a2 :: a3 :: a4 :: some (.ref x) :: L) (.ref x :: S) M Q := rfl
theorem zr_iload_6 {a0 a1 a2 a3 a4 a5 : Option Value} {x : Int32} : TR (z_st (.iload 6) n pc (a0 :: a1 :: a2 :: a3 :: a4 :: a5 :: some (.int x) :: L) S M) y pn M Q = TT y (pc + n) (a0 :: a1 :: a2 :: a3 :: a4 :: a5 :: some (.int x) :: L) (.int x :: S) M Q := rfl
theorem zr_lload_6 {a0 a1 a2 a3 a4 a5 : Option Value} {x : Int64} : TR (z_st (.lload 6) n pc (a0 :: a1 :: a2 :: a3 :: a4 :: a5 :: some (.long x) :: L) S M) y pn M Q = TT y (pc + n) (a0 :: a1 :: a2 :: a3 :: a4 :: a5 :: some (.long x) :: L) (.long x :: S) M Q := rfl
theorem zr_aload_6 {a0 a1 a2 a3 a4 a5 : Option Value} {x : Nat} : TR (z_st (.aload 6) n pc (a0 :: a1 :: a2 :: a3 :: a4 :: a5 :: some (.ref x) :: L) S M) y pn M Q = TT y (pc + n) (a0 :: a1 :: a2 :: a3 :: a4 :: a5 :: some (.ref x) :: L) (.ref x :: S) M Q := rfl
theorem zr_iload_7 {a0 a1 a2 a3 a4 a5 a6 : Option Value} {x : Int32} : TR (z_st (.iload 7) n pc (a0 :: a1 :: a2 :: a3 :: a4 :: a5 :: a6 :: some (.int x) :: L) S M) y pn M Q = TT y (pc + n) (a0 :: a1 :: a2 :: a3 :: a4 :: a5 :: a6 :: some (.int x) :: L) (.int x :: S) M Q := rfl
theorem zr_lload_7 {a0 a1 a2 a3 a4 a5 a6 : Option Value} {x : Int64} : TR (z_st (.lload 7) n pc (a0 :: a1 :: a2 :: a3 :: a4 :: a5 :: a6 :: some (.long x) :: L) S M) y pn M Q = TT y (pc + n) (a0 :: a1 :: a2 :: a3 :: a4 :: a5 :: a6 :: some (.long x) :: L) (.long x :: S) M Q := rfl
theorem zr_aload_7 {a0 a1 a2 a3 a4 a5 a6 : Option Value} {x : Nat} : TR (z_st (.aload 7) n pc (a0 :: a1 :: a2 :: a3 :: a4 :: a5 :: a6 :: some (.ref x) :: L) S M) y pn M Q = TT y (pc + n) (a0 :: a1 :: a2 :: a3 :: a4 :: a5 :: a6 :: some (.ref x) :: L) (.ref x :: S) M Q := rfl
theorem zr_iload_8 {a0 a1 a2 a3 a4 a5 a6 a7 : Option Value} {x : Int32} : TR (z_st (.iload 8) n pc (a0 :: a1 :: a2 :: a3 :: a4 :: a5 :: a6 :: a7 :: some (.int x) :: L) S M) y pn M Q = TT y (pc + n) (a0 :: a1 :: a2 :: a3 :: a4 :: a5 :: a6 :: a7 :: some (.int x) :: L) (.int x :: S) M Q := rfl
theorem zr_lload_8 {a0 a1 a2 a3 a4 a5 a6 a7 : Option Value} {x : Int64} : TR (z_st (.lload 8) n pc (a0 :: a1 :: a2 :: a3 :: a4 :: a5 :: a6 :: a7 :: some (.long x) :: L) S M) y pn M Q = TT y (pc + n) (a0 :: a1 :: a2 :: a3 :: a4 :: a5 :: a6 :: a7 :: some (.long x) :: L) (.long x :: S) M Q := rfl
theorem zr_aload_8 {a0 a1 a2 a3 a4 a5 a6 a7 : Option Value} {x : Nat} : TR (z_st (.aload 8) n pc (a0 :: a1 :: a2 :: a3 :: a4 :: a5 :: a6 :: a7 :: some (.ref x) :: L) S M) y pn M Q = TT y (pc + n) (a0 :: a1 :: a2 :: a3 :: a4 :: a5 :: a6 :: a7 :: some (.ref x) :: L) (.ref x :: S) M Q := rfl
theorem zr_iload_9 {a0 a1 a2 a3 a4 a5 a6 a7 a8 : Option Value} {x : Int32} : TR (z_st (.iload 9) n pc (a0 :: a1 :: a2 :: a3 :: a4 :: a5 :: a6 :: a7 :: a8 :: some (.int x) :: L) S M) y pn M Q = TT y (pc + n) (a0 :: a1 :: a2 :: a3 :: a4 :: a5 :: a6 :: a7 :: a8 :: some (.int x) :: L) (.int x :: S) M Q := rfl
theorem zr_lload_9 {a0 a1 a2 a3 a4 a5 a6 a7 a8 : Option Value} {x : Int64} : TR (z_st (.lload 9) n pc (a0 :: a1 :: a2 :: a3 :: a4 :: a5 :: a6 :: a7 :: a8 :: some (.long x) :: L) S M) y pn M Q = TT y (pc + n) (a0 :: a1 :: a2 :: a3 :: a4 :: a5 :: a6 :: a7 :: a8 :: some (.long x) :: L) (.long x :: S) M Q := rfl
theorem zr_aload_9 {a0 a1 a2 a3 a4 a5 a6 a7 a8 : Option Value} {x : Nat} : TR (z_st (.aload 9) n pc (a0 :: a1 :: a2 :: a3 :: a4 :: a5 :: a6 :: a7 :: a8 :: some (.ref x) :: L) S M) y pn M Q = TT y (pc + n) (a0 :: a1 :: a2 :: a3 :: a4 :: a5 :: a6 :: a7 :: a8 :: some (.ref x) :: L) (.ref x :: S) M Q := rfl
theorem zr_iload_10 {a0 a1 a2 a3 a4 a5 a6 a7 a8 a9 : Option Value} {x : Int32} : TR (z_st (.iload 10) n pc (a0 :: a1 :: a2 :: a3 :: a4 :: a5 :: a6 :: a7 :: a8 :: a9 :: some (.int x) :: L) S M) y pn M Q = TT y (pc + n) (a0 :: a1 :: a2 :: a3 :: a4 :: a5 :: a6 :: a7 :: a8 :: a9 :: some (.int x) :: L) (.int x :: S) M Q := rfl
theorem zr_lload_10 {a0 a1 a2 a3 a4 a5 a6 a7 a8 a9 : Option Value} {x : Int64} : TR (z_st (.lload 10) n pc (a0 :: a1 :: a2 :: a3 :: a4 :: a5 :: a6 :: a7 :: a8 :: a9 :: some (.long x) :: L) S M) y pn M Q = TT y (pc + n) (a0 :: a1 :: a2 :: a3 :: a4 :: a5 :: a6 :: a7 :: a8 :: a9 :: some (.long x) :: L) (.long x :: S) M Q := rfl
theorem zr_aload_10 {a0 a1 a2 a3 a4 a5 a6 a7 a8 a9 : Option Value} {x : Nat} : TR (z_st (.aload 10) n pc (a0 :: a1 :: a2 :: a3 :: a4 :: a5 :: a6 :: a7 :: a8 :: a9 :: some (.ref x) :: L) S M) y pn M Q = TT y (pc + n) (a0 :: a1 :: a2 :: a3 :: a4 :: a5 :: a6 :: a7 :: a8 :: a9 :: some (.ref x) :: L) (.ref x :: S) M Q := rfl
theorem zr_iload_11 {a0 a1 a2 a3 a4 a5 a6 a7 a8 a9 a10 : Option Value} {x : Int32} : TR (z_st (.iload 11) n pc (a0 :: a1 :: a2 :: a3 :: a4 :: a5 :: a6 :: a7 :: a8 :: a9 :: a10 :: some (.int x) :: L) S M) y pn M Q = TT y (pc + n) (a0 :: a1 :: a2 :: a3 :: a4 :: a5 :: a6 :: a7 :: a8 :: a9 :: a10 :: some (.int x) :: L) (.int x :: S) M Q := rfl
theorem zr_lload_11 {a0 a1 a2 a3 a4 a5 a6 a7 a8 a9 a10 : Option Value} {x : Int64} : TR (z_st (.lload 11) n pc (a0 :: a1 :: a2 :: a3 :: a4 :: a5 :: a6 :: a7 :: a8 :: a9 :: a10 :: some (.long x) :: L) S M) y pn M Q = TT y (pc + n) (a0 :: a1 :: a2 :: a3 :: a4 :: a5 :: a6 :: a7 :: a8 :: a9 :: a10 :: some (.long x) :: L) (.long x :: S) M Q := rfl
theorem zr_aload_11 {a0 a1 a2 a3 a4 a5 a6 a7 a8 a9 a10 : Option Value} {x : Nat} : TR (z_st (.aload 11) n pc (a0 :: a1 :: a2 :: a3 :: a4 :: a5 :: a6 :: a7 :: a8 :: a9 :: a10 :: some (.ref x) :: L) S M) y pn M Q = TT y (pc + n) (a0 :: a1 :: a2 :: a3 :: a4 :: a5 :: a6 :: a7 :: a8 :: a9 :: a10 :: some (.ref x) :: L) (.ref x :: S) M Q := rfl
theorem zr_iload_12 {a0 a1 a2 a3 a4 a5 a6 a7 a8 a9 a10 a11 : Option Value} {x : Int32} : TR (z_st (.iload 12) n pc (a0 :: a1 :: a2 :: a3 :: a4 :: a5 :: a6 :: a7 :: a8 :: a9 :: a10 :: a11 :: some (.int x) :: L) S M) y pn M Q = TT y (pc + n) (a0 :: a1 :: a2 :: a3 :: a4 :: a5 :: a6 :: a7 :: a8 :: a9 :: a10 :: a11 :: some (.int x) :: L) (.int x :: S) M Q := rfl
theorem zr_lload_12 {a0 a1 a2 a3 a4 a5 a6 a7 a8 a9 a10 a11 : Option Value} {x : Int64} : TR (z_st (.lload 12) n pc (a0 :: a1 :: a2 :: a3 :: a4 :: a5 :: a6 :: a7 :: a8 :: a9 :: a10 :: a11 :: some (.long x) :: L) S M) y pn M Q = TT y (pc + n) (a0 :: a1 :: a2 :: a3 :: a4 :: a5 :: a6 :: a7 :: a8 :: a9 :: a10 :: a11 :: some (.long x) :: L) (.long x :: S) M Q := rfl
theorem zr_aload_12 {a0 a1 a2 a3 a4 a5 a6 a7 a8 a9 a10 a11 : Option Value} {x : Nat} : TR (z_st (.aload 12) n pc (a0 :: a1 :: a2 :: a3 :: a4 :: a5 :: a6 :: a7 :: a8 :: a9 :: a10 :: a11 :: some (.ref x) :: L) S M) y pn M Q = TT y (pc + n) (a0 :: a1 :: a2 :: a3 :: a4 :: a5 :: a6 :: a7 :: a8 :: a9 :: a10 :: a11 :: some (.ref x) :: L) (.ref x :: S) M Q := rfl
theorem zr_iload_13 {a0 a1 a2 a3 a4 a5 a6 a7 a8 a9 a10 a11 a12 : Option Value} {x : Int32} : TR (z_st (.iload 13) n pc (a0 :: a1 :: a2 :: a3 :: a4 :: a5 :: a6 :: a7 :: a8 :: a9 :: a10 :: a11 :: a12 :: some (.int x) :: L) S M) y pn M Q = TT y (pc + n) (a0 :: a1 :: a2 :: a3 :: a4 :: a5 :: a6 :: a7 :: a8 :: a9 :: a10 :: a11 :: a12 :: some (.int x) :: L) (.int x :: S) M Q := rfl
theorem zr_lload_13 {a0 a1 a2 a3 a4 a5 a6 a7 a8 a9 a10 a11 a12 : Option Value} {x : Int64} : TR (z_st (.lload 13) n pc (a0 :: a1 :: a2 :: a3 :: a4 :: a5 :: a6 :: a7 :: a8 :: a9 :: a10 :: a11 :: a12 :: some (.long x) :: L) S M) y pn M Q = TT y (pc + n) (a0 :: a1 :: a2 :: a3 :: a4 :: a5 :: a6 :: a7 :: a8 :: a9 :: a10 :: a11 :: a12 :: some (.long x) :: L) (.long x :: S) M Q := rfl
theorem zr_aload_13 {a0 a1 a2 a3 a4 a5 a6 a7 a8 a9 a10 a11 a12 : Option Value} {x : Nat} : TR (z_st (.aload 13) n pc (a0 :: a1 :: a2 :: a3 :: a4 :: a5 :: a6 :: a7 :: a8 :: a9 :: a10 :: a11 :: a12 :: some (.ref x) :: L) S M) y pn M Q = TT y (pc + n) (a0 :: a1 :: a2 :: a3 :: a4 :: a5 :: a6 :: a7 :: a8 :: a9 :: a10 :: a11 :: a12 :: some (.ref x) :: L) (.ref x :: S) M Q := rfl
theorem zr_iload_14 {a0 a1 a2 a3 a4 a5 a6 a7 a8 a9 a10 a11 a12 a13 : Option Value} {x : Int32} : TR (z_st (.iload 14) n pc (a0 :: a1 :: a2 :: a3 :: a4 :: a5 :: a6 :: a7 :: a8 :: a9 :: a10 :: a11 :: a12 :: a13 :: some (.int x) :: L) S M) y pn M Q = TT y (pc + n) (a0 :: a1 :: a2 :: a3 :: a4 :: a5 :: a6 :: a7 :: a8 :: a9 :: a10 :: a11 :: a12 :: a13 :: some (.int x) :: L) (.int x :: S) M Q := rfl
theorem zr_lload_14 {a0 a1 a2 a3 a4 a5 a6 a7 a8 a9 a10 a11 a12 a13 : Option Value} {x : Int64} : TR (z_st (.lload 14) n pc (a0 :: a1 :: a2 :: a3 :: a4 :: a5 :: a6 :: a7 :: a8 :: a9 :: a10 :: a11 :: a12 :: a13 :: some (.long x) :: L) S M) y pn M Q = TT y (pc + n) (a0 :: a1 :: a2 :: a3 :: a4 :: a5 :: a6 :: a7 :: a8 :: a9 :: a10 :: a11 :: a12 :: a13 :: some (.long x) :: L) (.long x :: S) M Q := rfl
theorem zr_aload_14 {a0 a1 a2 a3 a4 a5 a6 a7 a8 a9 a10 a11 a12 a13 : Option Value} {x : Nat} : TR (z_st (.aload 14) n pc (a0 :: a1 :: a2 :: a3 :: a4 :: a5 :: a6 :: a7 :: a8 :: a9 :: a10 :: a11 :: a12 :: a13 :: some (.ref x) :: L) S M) y pn M Q = TT y (pc + n) (a0 :: a1 :: a2 :: a3 :: a4 :: a5 :: a6 :: a7 :: a8 :: a9 :: a10 :: a11 :: a12 :: a13 :: some (.ref x) :: L) (.ref x :: S) M Q := rfl
def z_cz (v : Option Value) : Option Value := match v with
  | some w => cond (z_cat2 w) none (some w)
  | none => none
theorem zcl_i {x : Int32} : z_cz (some (.int x)) = some (.int x) := rfl
theorem zcl_r {x : Nat} : z_cz (some (.ref x)) = some (.ref x) := rfl
theorem zcl_l {x : Int64} : z_cz (some (.long x)) = none := rfl
theorem zcl_n : z_cz none = none := rfl
theorem z_clr_cz (L : Lo) (a : Option Value) : z_clr (a :: L) 0 = z_cz a :: L := by
  rcases a with _ | v
  · rfl
  · show cond (z_cat2 v) (none :: L) (some v :: L) = cond (z_cat2 v) none (some v) :: L
    cases z_cat2 v <;> rfl
theorem z_clr_s (L : Lo) (a : Option Value) (k : Nat) : z_clr (a :: L) (k + 1) = a :: z_clr L k := by
  unfold z_clr z_lget
  simp only [List.getElem?_cons_succ]
  cases h : (L[k]?).bind id with
  | none => rfl
  | some v => show cond (z_cat2 v) (a :: L.set k none) (a :: L) = a :: cond (z_cat2 v) (L.set k none) L
              cases z_cat2 v <;> rfl
theorem zp_0 {a0 : Option Value} {v : Value} : z_put1 (a0 :: L) 0 v = some v :: L := by
  rfl
theorem zr_istore_0 {a0 : Option Value} {x : Int32} : TR (z_st (.istore 0) n pc (a0 :: L) (.int x :: S) M) y pn M Q = TT y (pc + n) (some (.int x) :: L) S M Q := by
  show TR (z_if (Nat.blt 0 (a0 :: L).length) (z_go (pc + n) (z_put1 (a0 :: L) 0 (.int x)) S M)) y pn M Q = _
  rw [zp_0, show Nat.blt 0 (a0 :: L).length = true from by simp [Nat.blt]]; rfl
theorem zr_astore_0 {a0 : Option Value} {x : Nat} : TR (z_st (.astore 0) n pc (a0 :: L) (.ref x :: S) M) y pn M Q = TT y (pc + n) (some (.ref x) :: L) S M Q := by
  show TR (z_if (Nat.blt 0 (a0 :: L).length) (z_go (pc + n) (z_put1 (a0 :: L) 0 (.ref x)) S M)) y pn M Q = _
  rw [zp_0, show Nat.blt 0 (a0 :: L).length = true from by simp [Nat.blt]]; rfl
theorem zr_lstore_0 {a0 b : Option Value} {x : Int64} : TR (z_st (.lstore 0) n pc (a0 :: b :: L) (.long x :: S) M) y pn M Q = TT y (pc + n) (some (.long x) :: none :: L) S M Q := by
  show TR (z_if (Nat.blt (0 + 1) (a0 :: b :: L).length) (z_go (pc + n) ((z_put1 (a0 :: b :: L) 0 (.long x)).set (0 + 1) none) S M)) y pn M Q = _
  rw [zp_0, show Nat.blt (0 + 1) (a0 :: b :: L).length = true from by simp [Nat.blt]]; rfl
theorem zp_1 {a0 a1 : Option Value} {v : Value} : z_put1 (a0 :: a1 :: L) 1 v = z_cz a0 :: some v :: L := by
  show (z_clr (a0 :: a1 :: L) 0).set 1 (some v) = _
  simp only [z_clr_cz, List.set_cons_succ, List.set_cons_zero]
theorem zr_istore_1 {a0 a1 : Option Value} {x : Int32} : TR (z_st (.istore 1) n pc (a0 :: a1 :: L) (.int x :: S) M) y pn M Q = TT y (pc + n) (z_cz a0 :: some (.int x) :: L) S M Q := by
  show TR (z_if (Nat.blt 1 (a0 :: a1 :: L).length) (z_go (pc + n) (z_put1 (a0 :: a1 :: L) 1 (.int x)) S M)) y pn M Q = _
  rw [zp_1, show Nat.blt 1 (a0 :: a1 :: L).length = true from by simp [Nat.blt]]; rfl
theorem zr_astore_1 {a0 a1 : Option Value} {x : Nat} : TR (z_st (.astore 1) n pc (a0 :: a1 :: L) (.ref x :: S) M) y pn M Q = TT y (pc + n) (z_cz a0 :: some (.ref x) :: L) S M Q := by
  show TR (z_if (Nat.blt 1 (a0 :: a1 :: L).length) (z_go (pc + n) (z_put1 (a0 :: a1 :: L) 1 (.ref x)) S M)) y pn M Q = _
  rw [zp_1, show Nat.blt 1 (a0 :: a1 :: L).length = true from by simp [Nat.blt]]; rfl
theorem zr_lstore_1 {a0 a1 b : Option Value} {x : Int64} : TR (z_st (.lstore 1) n pc (a0 :: a1 :: b :: L) (.long x :: S) M) y pn M Q = TT y (pc + n) (z_cz a0 :: some (.long x) :: none :: L) S M Q := by
  show TR (z_if (Nat.blt (1 + 1) (a0 :: a1 :: b :: L).length) (z_go (pc + n) ((z_put1 (a0 :: a1 :: b :: L) 1 (.long x)).set (1 + 1) none) S M)) y pn M Q = _
  rw [zp_1, show Nat.blt (1 + 1) (a0 :: a1 :: b :: L).length = true from by simp [Nat.blt]]; rfl
theorem zp_2 {a0 a1 a2 : Option Value} {v : Value} : z_put1 (a0 :: a1 :: a2 :: L) 2 v = a0 :: z_cz a1 :: some v :: L := by
  show (z_clr (a0 :: a1 :: a2 :: L) 1).set 2 (some v) = _
  simp only [z_clr_s, z_clr_cz, List.set_cons_succ, List.set_cons_zero]
theorem zr_istore_2 {a0 a1 a2 : Option Value} {x : Int32} : TR (z_st (.istore 2) n pc (a0 :: a1 :: a2 :: L) (.int x :: S) M) y pn M Q = TT y (pc + n) (a0 :: z_cz a1 :: some (.int x) :: L) S M Q := by
  show TR (z_if (Nat.blt 2 (a0 :: a1 :: a2 :: L).length) (z_go (pc + n) (z_put1 (a0 :: a1 :: a2 :: L) 2 (.int x)) S M)) y pn M Q = _
  rw [zp_2, show Nat.blt 2 (a0 :: a1 :: a2 :: L).length = true from by simp [Nat.blt]]; rfl
theorem zr_astore_2 {a0 a1 a2 : Option Value} {x : Nat} : TR (z_st (.astore 2) n pc (a0 :: a1 :: a2 :: L) (.ref x :: S) M) y pn M Q = TT y (pc + n) (a0 :: z_cz a1 :: some (.ref x) :: L) S M Q := by
  show TR (z_if (Nat.blt 2 (a0 :: a1 :: a2 :: L).length) (z_go (pc + n) (z_put1 (a0 :: a1 :: a2 :: L) 2 (.ref x)) S M)) y pn M Q = _
  rw [zp_2, show Nat.blt 2 (a0 :: a1 :: a2 :: L).length = true from by simp [Nat.blt]]; rfl
theorem zr_lstore_2 {a0 a1 a2 b : Option Value} {x : Int64} : TR (z_st (.lstore 2) n pc (a0 :: a1 :: a2 :: b :: L) (.long x :: S) M) y pn M Q = TT y (pc + n) (a0 :: z_cz a1 :: some (.long x) :: none :: L) S M Q := by
  show TR (z_if (Nat.blt (2 + 1) (a0 :: a1 :: a2 :: b :: L).length) (z_go (pc + n) ((z_put1 (a0 :: a1 :: a2 :: b :: L) 2 (.long x)).set (2 + 1) none) S M)) y pn M Q = _
  rw [zp_2, show Nat.blt (2 + 1) (a0 :: a1 :: a2 :: b :: L).length = true from by simp [Nat.blt]]; rfl
theorem zp_3 {a0 a1 a2 a3 : Option Value} {v : Value} : z_put1 (a0 :: a1 :: a2 :: a3 :: L) 3 v = a0 :: a1 :: z_cz a2 :: some v :: L := by
  show (z_clr (a0 :: a1 :: a2 :: a3 :: L) 2).set 3 (some v) = _
  simp only [z_clr_s, z_clr_cz, List.set_cons_succ, List.set_cons_zero]
theorem zr_istore_3 {a0 a1 a2 a3 : Option Value} {x : Int32} : TR (z_st (.istore 3) n pc (a0 :: a1 :: a2 :: a3 :: L) (.int x :: S) M) y pn M Q = TT y (pc + n) (a0 :: a1 :: z_cz a2 :: some (.int x) :: L) S M Q := by
  show TR (z_if (Nat.blt 3 (a0 :: a1 :: a2 :: a3 :: L).length) (z_go (pc + n) (z_put1 (a0 :: a1 :: a2 :: a3 :: L) 3 (.int x)) S M)) y pn M Q = _
  rw [zp_3, show Nat.blt 3 (a0 :: a1 :: a2 :: a3 :: L).length = true from by simp [Nat.blt]]; rfl
theorem zr_astore_3 {a0 a1 a2 a3 : Option Value} {x : Nat} : TR (z_st (.astore 3) n pc (a0 :: a1 :: a2 :: a3 :: L) (.ref x :: S) M) y pn M Q = TT y (pc + n) (a0 :: a1 :: z_cz a2 :: some (.ref x) :: L) S M Q := by
  show TR (z_if (Nat.blt 3 (a0 :: a1 :: a2 :: a3 :: L).length) (z_go (pc + n) (z_put1 (a0 :: a1 :: a2 :: a3 :: L) 3 (.ref x)) S M)) y pn M Q = _
  rw [zp_3, show Nat.blt 3 (a0 :: a1 :: a2 :: a3 :: L).length = true from by simp [Nat.blt]]; rfl
theorem zr_lstore_3 {a0 a1 a2 a3 b : Option Value} {x : Int64} : TR (z_st (.lstore 3) n pc (a0 :: a1 :: a2 :: a3 :: b :: L) (.long x :: S) M) y pn M Q = TT y (pc + n) (a0 :: a1 :: z_cz a2 :: some (.long x) :: none :: L) S M Q := by
  show TR (z_if (Nat.blt (3 + 1) (a0 :: a1 :: a2 :: a3 :: b :: L).length) (z_go (pc + n) ((z_put1 (a0 :: a1 :: a2 :: a3 :: b :: L) 3 (.long x)).set (3 + 1) none) S M)) y pn M Q = _
  rw [zp_3, show Nat.blt (3 + 1) (a0 :: a1 :: a2 :: a3 :: b :: L).length = true from by simp [Nat.blt]]; rfl
theorem zp_4 {a0 a1 a2 a3 a4 : Option Value} {v : Value} : z_put1 (a0 :: a1 :: a2 :: a3 :: a4 :: L) 4 v = a0 :: a1 :: a2 :: z_cz a3 :: some v :: L := by
  show (z_clr (a0 :: a1 :: a2 :: a3 :: a4 :: L) 3).set 4 (some v) = _
  simp only [z_clr_s, z_clr_cz, List.set_cons_succ, List.set_cons_zero]
theorem zr_istore_4 {a0 a1 a2 a3 a4 : Option Value} {x : Int32} : TR (z_st (.istore 4) n pc (a0 :: a1 :: a2 :: a3 :: a4 :: L) (.int x :: S) M) y pn M Q = TT y (pc + n) (a0 :: a1 :: a2 :: z_cz a3 :: some (.int x) :: L) S M Q := by
  show TR (z_if (Nat.blt 4 (a0 :: a1 :: a2 :: a3 :: a4 :: L).length) (z_go (pc + n) (z_put1 (a0 :: a1 :: a2 :: a3 :: a4 :: L) 4 (.int x)) S M)) y pn M Q = _
  rw [zp_4, show Nat.blt 4 (a0 :: a1 :: a2 :: a3 :: a4 :: L).length = true from by simp [Nat.blt]]; rfl
theorem zr_astore_4 {a0 a1 a2 a3 a4 : Option Value} {x : Nat} : TR (z_st (.astore 4) n pc (a0 :: a1 :: a2 :: a3 :: a4 :: L) (.ref x :: S) M) y pn M Q = TT y (pc + n) (a0 :: a1 :: a2 :: z_cz a3 :: some (.ref x) :: L) S M Q := by
  show TR (z_if (Nat.blt 4 (a0 :: a1 :: a2 :: a3 :: a4 :: L).length) (z_go (pc + n) (z_put1 (a0 :: a1 :: a2 :: a3 :: a4 :: L) 4 (.ref x)) S M)) y pn M Q = _
  rw [zp_4, show Nat.blt 4 (a0 :: a1 :: a2 :: a3 :: a4 :: L).length = true from by simp [Nat.blt]]; rfl
theorem zr_lstore_4 {a0 a1 a2 a3 a4 b : Option Value} {x : Int64} : TR (z_st (.lstore 4) n pc (a0 :: a1 :: a2 :: a3 :: a4 :: b :: L) (.long x :: S) M) y pn M Q = TT y (pc + n) (a0 :: a1 :: a2 :: z_cz a3 :: some (.long x) :: none :: L) S M Q := by
  show TR (z_if (Nat.blt (4 + 1) (a0 :: a1 :: a2 :: a3 :: a4 :: b :: L).length) (z_go (pc + n) ((z_put1 (a0 :: a1 :: a2 :: a3 :: a4 :: b :: L) 4 (.long x)).set (4 + 1) none) S M)) y pn M Q = _
  rw [zp_4, show Nat.blt (4 + 1) (a0 :: a1 :: a2 :: a3 :: a4 :: b :: L).length = true from by simp [Nat.blt]]; rfl
theorem zp_5 {a0 a1 a2 a3 a4 a5 : Option Value} {v : Value} : z_put1 (a0 :: a1 :: a2 :: a3 :: a4 :: a5 :: L) 5 v = a0 :: a1 :: a2 :: a3 :: z_cz a4 :: some v :: L := by
  show (z_clr (a0 :: a1 :: a2 :: a3 :: a4 :: a5 :: L) 4).set 5 (some v) = _
  simp only [z_clr_s, z_clr_cz, List.set_cons_succ, List.set_cons_zero]
theorem zr_istore_5 {a0 a1 a2 a3 a4 a5 : Option Value} {x : Int32} : TR (z_st (.istore 5) n pc (a0 :: a1 :: a2 :: a3 :: a4 :: a5 :: L) (.int x :: S) M) y pn M Q = TT y (pc + n) (a0 :: a1 :: a2 :: a3 :: z_cz a4 :: some (.int x) :: L) S M Q := by
  show TR (z_if (Nat.blt 5 (a0 :: a1 :: a2 :: a3 :: a4 :: a5 :: L).length) (z_go (pc + n) (z_put1 (a0 :: a1 :: a2 :: a3 :: a4 :: a5 :: L) 5 (.int x)) S M)) y pn M Q = _
  rw [zp_5, show Nat.blt 5 (a0 :: a1 :: a2 :: a3 :: a4 :: a5 :: L).length = true from by simp [Nat.blt]]; rfl
theorem zr_astore_5 {a0 a1 a2 a3 a4 a5 : Option Value} {x : Nat} : TR (z_st (.astore 5) n pc (a0 :: a1 :: a2 :: a3 :: a4 :: a5 :: L) (.ref x :: S) M) y pn M Q = TT y (pc + n) (a0 :: a1 :: a2 :: a3 :: z_cz a4 :: some (.ref x) :: L) S M Q := by
  show TR (z_if (Nat.blt 5 (a0 :: a1 :: a2 :: a3 :: a4 :: a5 :: L).length) (z_go (pc + n) (z_put1 (a0 :: a1 :: a2 :: a3 :: a4 :: a5 :: L) 5 (.ref x)) S M)) y pn M Q = _
  rw [zp_5, show Nat.blt 5 (a0 :: a1 :: a2 :: a3 :: a4 :: a5 :: L).length = true from by simp [Nat.blt]]; rfl
theorem zr_lstore_5 {a0 a1 a2 a3 a4 a5 b : Option Value} {x : Int64} : TR (z_st (.lstore 5) n pc (a0 :: a1 :: a2 :: a3 :: a4 :: a5 :: b :: L) (.long x :: S) M) y pn M Q = TT y (pc + n) (a0 :: a1 :: a2 :: a3 :: z_cz a4 :: some (.long x) :: none :: L) S M Q := by
  show TR (z_if (Nat.blt (5 + 1) (a0 :: a1 :: a2 :: a3 :: a4 :: a5 :: b :: L).length) (z_go (pc + n) ((z_put1 (a0 :: a1 :: a2 :: a3 :: a4 :: a5 :: b :: L) 5 (.long x)).set (5 + 1) none) S M)) y pn M Q = _
  rw [zp_5, show Nat.blt (5 + 1) (a0 :: a1 :: a2 :: a3 :: a4 :: a5 :: b :: L).length = true from by simp [Nat.blt]]; rfl
theorem zp_6 {a0 a1 a2 a3 a4 a5 a6 : Option Value} {v : Value} : z_put1 (a0 :: a1 :: a2 :: a3 :: a4 :: a5 :: a6 :: L) 6 v = a0 :: a1 :: a2 :: a3 :: a4 :: z_cz a5 :: some v :: L := by
  show (z_clr (a0 :: a1 :: a2 :: a3 :: a4 :: a5 :: a6 :: L) 5).set 6 (some v) = _
  simp only [z_clr_s, z_clr_cz, List.set_cons_succ, List.set_cons_zero]
theorem zr_istore_6 {a0 a1 a2 a3 a4 a5 a6 : Option Value} {x : Int32} : TR (z_st (.istore 6) n pc (a0 :: a1 :: a2 :: a3 :: a4 :: a5 :: a6 :: L) (.int x :: S) M) y pn M Q = TT y (pc + n) (a0 :: a1 :: a2 :: a3 :: a4 :: z_cz a5 :: some (.int x) :: L) S M Q := by
  show TR (z_if (Nat.blt 6 (a0 :: a1 :: a2 :: a3 :: a4 :: a5 :: a6 :: L).length) (z_go (pc + n) (z_put1 (a0 :: a1 :: a2 :: a3 :: a4 :: a5 :: a6 :: L) 6 (.int x)) S M)) y pn M Q = _
  rw [zp_6, show Nat.blt 6 (a0 :: a1 :: a2 :: a3 :: a4 :: a5 :: a6 :: L).length = true from by simp [Nat.blt]]; rfl
theorem zr_astore_6 {a0 a1 a2 a3 a4 a5 a6 : Option Value} {x : Nat} : TR (z_st (.astore 6) n pc (a0 :: a1 :: a2 :: a3 :: a4 :: a5 :: a6 :: L) (.ref x :: S) M) y pn M Q = TT y (pc + n) (a0 :: a1 :: a2 :: a3 :: a4 :: z_cz a5 :: some (.ref x) :: L) S M Q := by
  show TR (z_if (Nat.blt 6 (a0 :: a1 :: a2 :: a3 :: a4 :: a5 :: a6 :: L).length) (z_go (pc + n) (z_put1 (a0 :: a1 :: a2 :: a3 :: a4 :: a5 :: a6 :: L) 6 (.ref x)) S M)) y pn M Q = _
  rw [zp_6, show Nat.blt 6 (a0 :: a1 :: a2 :: a3 :: a4 :: a5 :: a6 :: L).length = true from by simp [Nat.blt]]; rfl
theorem zr_lstore_6 {a0 a1 a2 a3 a4 a5 a6 b : Option Value} {x : Int64} : TR (z_st (.lstore 6) n pc (a0 :: a1 :: a2 :: a3 :: a4 :: a5 :: a6 :: b :: L) (.long x :: S) M) y pn M Q = TT y (pc + n) (a0 :: a1 :: a2 :: a3 :: a4 :: z_cz a5 :: some (.long x) :: none :: L) S M Q := by
  show TR (z_if (Nat.blt (6 + 1) (a0 :: a1 :: a2 :: a3 :: a4 :: a5 :: a6 :: b :: L).length) (z_go (pc + n) ((z_put1 (a0 :: a1 :: a2 :: a3 :: a4 :: a5 :: a6 :: b :: L) 6 (.long x)).set (6 + 1) none) S M)) y pn M Q = _
  rw [zp_6, show Nat.blt (6 + 1) (a0 :: a1 :: a2 :: a3 :: a4 :: a5 :: a6 :: b :: L).length = true from by simp [Nat.blt]]; rfl
theorem zp_7 {a0 a1 a2 a3 a4 a5 a6 a7 : Option Value} {v : Value} : z_put1 (a0 :: a1 :: a2 :: a3 :: a4 :: a5 :: a6 :: a7 :: L) 7 v = a0 :: a1 :: a2 :: a3 :: a4 :: a5 :: z_cz a6 :: some v :: L := by
  show (z_clr (a0 :: a1 :: a2 :: a3 :: a4 :: a5 :: a6 :: a7 :: L) 6).set 7 (some v) = _
  simp only [z_clr_s, z_clr_cz, List.set_cons_succ, List.set_cons_zero]
theorem zr_istore_7 {a0 a1 a2 a3 a4 a5 a6 a7 : Option Value} {x : Int32} : TR (z_st (.istore 7) n pc (a0 :: a1 :: a2 :: a3 :: a4 :: a5 :: a6 :: a7 :: L) (.int x :: S) M) y pn M Q = TT y (pc + n) (a0 :: a1 :: a2 :: a3 :: a4 :: a5 :: z_cz a6 :: some (.int x) :: L) S M Q := by
  show TR (z_if (Nat.blt 7 (a0 :: a1 :: a2 :: a3 :: a4 :: a5 :: a6 :: a7 :: L).length) (z_go (pc + n) (z_put1 (a0 :: a1 :: a2 :: a3 :: a4 :: a5 :: a6 :: a7 :: L) 7 (.int x)) S M)) y pn M Q = _
  rw [zp_7, show Nat.blt 7 (a0 :: a1 :: a2 :: a3 :: a4 :: a5 :: a6 :: a7 :: L).length = true from by simp [Nat.blt]]; rfl
theorem zr_astore_7 {a0 a1 a2 a3 a4 a5 a6 a7 : Option Value} {x : Nat} : TR (z_st (.astore 7) n pc (a0 :: a1 :: a2 :: a3 :: a4 :: a5 :: a6 :: a7 :: L) (.ref x :: S) M) y pn M Q = TT y (pc + n) (a0 :: a1 :: a2 :: a3 :: a4 :: a5 :: z_cz a6 :: some (.ref x) :: L) S M Q := by
  show TR (z_if (Nat.blt 7 (a0 :: a1 :: a2 :: a3 :: a4 :: a5 :: a6 :: a7 :: L).length) (z_go (pc + n) (z_put1 (a0 :: a1 :: a2 :: a3 :: a4 :: a5 :: a6 :: a7 :: L) 7 (.ref x)) S M)) y pn M Q = _
  rw [zp_7, show Nat.blt 7 (a0 :: a1 :: a2 :: a3 :: a4 :: a5 :: a6 :: a7 :: L).length = true from by simp [Nat.blt]]; rfl
theorem zr_lstore_7 {a0 a1 a2 a3 a4 a5 a6 a7 b : Option Value} {x : Int64} : TR (z_st (.lstore 7) n pc (a0 :: a1 :: a2 :: a3 :: a4 :: a5 :: a6 :: a7 :: b :: L) (.long x :: S) M) y pn M Q = TT y (pc + n) (a0 :: a1 :: a2 :: a3 :: a4 :: a5 :: z_cz a6 :: some (.long x) :: none :: L) S M Q := by
  show TR (z_if (Nat.blt (7 + 1) (a0 :: a1 :: a2 :: a3 :: a4 :: a5 :: a6 :: a7 :: b :: L).length) (z_go (pc + n) ((z_put1 (a0 :: a1 :: a2 :: a3 :: a4 :: a5 :: a6 :: a7 :: b :: L) 7 (.long x)).set (7 + 1) none) S M)) y pn M Q = _
  rw [zp_7, show Nat.blt (7 + 1) (a0 :: a1 :: a2 :: a3 :: a4 :: a5 :: a6 :: a7 :: b :: L).length = true from by simp [Nat.blt]]; rfl
theorem zp_8 {a0 a1 a2 a3 a4 a5 a6 a7 a8 : Option Value} {v : Value} : z_put1 (a0 :: a1 :: a2 :: a3 :: a4 :: a5 :: a6 :: a7 :: a8 :: L) 8 v = a0 :: a1 :: a2 :: a3 :: a4 :: a5 :: a6 :: z_cz a7 :: some v :: L := by
  show (z_clr (a0 :: a1 :: a2 :: a3 :: a4 :: a5 :: a6 :: a7 :: a8 :: L) 7).set 8 (some v) = _
  simp only [z_clr_s, z_clr_cz, List.set_cons_succ, List.set_cons_zero]
theorem zr_istore_8 {a0 a1 a2 a3 a4 a5 a6 a7 a8 : Option Value} {x : Int32} : TR (z_st (.istore 8) n pc (a0 :: a1 :: a2 :: a3 :: a4 :: a5 :: a6 :: a7 :: a8 :: L) (.int x :: S) M) y pn M Q = TT y (pc + n) (a0 :: a1 :: a2 :: a3 :: a4 :: a5 :: a6 :: z_cz a7 :: some (.int x) :: L) S M Q := by
  show TR (z_if (Nat.blt 8 (a0 :: a1 :: a2 :: a3 :: a4 :: a5 :: a6 :: a7 :: a8 :: L).length) (z_go (pc + n) (z_put1 (a0 :: a1 :: a2 :: a3 :: a4 :: a5 :: a6 :: a7 :: a8 :: L) 8 (.int x)) S M)) y pn M Q = _
  rw [zp_8, show Nat.blt 8 (a0 :: a1 :: a2 :: a3 :: a4 :: a5 :: a6 :: a7 :: a8 :: L).length = true from by simp [Nat.blt]]; rfl
theorem zr_astore_8 {a0 a1 a2 a3 a4 a5 a6 a7 a8 : Option Value} {x : Nat} : TR (z_st (.astore 8) n pc (a0 :: a1 :: a2 :: a3 :: a4 :: a5 :: a6 :: a7 :: a8 :: L) (.ref x :: S) M) y pn M Q = TT y (pc + n) (a0 :: a1 :: a2 :: a3 :: a4 :: a5 :: a6 :: z_cz a7 :: some (.ref x) :: L) S M Q := by
  show TR (z_if (Nat.blt 8 (a0 :: a1 :: a2 :: a3 :: a4 :: a5 :: a6 :: a7 :: a8 :: L).length) (z_go (pc + n) (z_put1 (a0 :: a1 :: a2 :: a3 :: a4 :: a5 :: a6 :: a7 :: a8 :: L) 8 (.ref x)) S M)) y pn M Q = _
  rw [zp_8, show Nat.blt 8 (a0 :: a1 :: a2 :: a3 :: a4 :: a5 :: a6 :: a7 :: a8 :: L).length = true from by simp [Nat.blt]]; rfl
theorem zr_lstore_8 {a0 a1 a2 a3 a4 a5 a6 a7 a8 b : Option Value} {x : Int64} : TR (z_st (.lstore 8) n pc (a0 :: a1 :: a2 :: a3 :: a4 :: a5 :: a6 :: a7 :: a8 :: b :: L) (.long x :: S) M) y pn M Q = TT y (pc + n) (a0 :: a1 :: a2 :: a3 :: a4 :: a5 :: a6 :: z_cz a7 :: some (.long x) :: none :: L) S M Q := by
  show TR (z_if (Nat.blt (8 + 1) (a0 :: a1 :: a2 :: a3 :: a4 :: a5 :: a6 :: a7 :: a8 :: b :: L).length) (z_go (pc + n) ((z_put1 (a0 :: a1 :: a2 :: a3 :: a4 :: a5 :: a6 :: a7 :: a8 :: b :: L) 8 (.long x)).set (8 + 1) none) S M)) y pn M Q = _
  rw [zp_8, show Nat.blt (8 + 1) (a0 :: a1 :: a2 :: a3 :: a4 :: a5 :: a6 :: a7 :: a8 :: b :: L).length = true from by simp [Nat.blt]]; rfl
theorem zp_9 {a0 a1 a2 a3 a4 a5 a6 a7 a8 a9 : Option Value} {v : Value} : z_put1 (a0 :: a1 :: a2 :: a3 :: a4 :: a5 :: a6 :: a7 :: a8 :: a9 :: L) 9 v = a0 :: a1 :: a2 :: a3 :: a4 :: a5 :: a6 :: a7 :: z_cz a8 :: some v :: L := by
  show (z_clr (a0 :: a1 :: a2 :: a3 :: a4 :: a5 :: a6 :: a7 :: a8 :: a9 :: L) 8).set 9 (some v) = _
  simp only [z_clr_s, z_clr_cz, List.set_cons_succ, List.set_cons_zero]
theorem zr_istore_9 {a0 a1 a2 a3 a4 a5 a6 a7 a8 a9 : Option Value} {x : Int32} : TR (z_st (.istore 9) n pc (a0 :: a1 :: a2 :: a3 :: a4 :: a5 :: a6 :: a7 :: a8 :: a9 :: L) (.int x :: S) M) y pn M Q = TT y (pc + n) (a0 :: a1 :: a2 :: a3 :: a4 :: a5 :: a6 :: a7 :: z_cz a8 :: some (.int x) :: L) S M Q := by
  show TR (z_if (Nat.blt 9 (a0 :: a1 :: a2 :: a3 :: a4 :: a5 :: a6 :: a7 :: a8 :: a9 :: L).length) (z_go (pc + n) (z_put1 (a0 :: a1 :: a2 :: a3 :: a4 :: a5 :: a6 :: a7 :: a8 :: a9 :: L) 9 (.int x)) S M)) y pn M Q = _
  rw [zp_9, show Nat.blt 9 (a0 :: a1 :: a2 :: a3 :: a4 :: a5 :: a6 :: a7 :: a8 :: a9 :: L).length = true from by simp [Nat.blt]]; rfl
theorem zr_astore_9 {a0 a1 a2 a3 a4 a5 a6 a7 a8 a9 : Option Value} {x : Nat} : TR (z_st (.astore 9) n pc (a0 :: a1 :: a2 :: a3 :: a4 :: a5 :: a6 :: a7 :: a8 :: a9 :: L) (.ref x :: S) M) y pn M Q = TT y (pc + n) (a0 :: a1 :: a2 :: a3 :: a4 :: a5 :: a6 :: a7 :: z_cz a8 :: some (.ref x) :: L) S M Q := by
  show TR (z_if (Nat.blt 9 (a0 :: a1 :: a2 :: a3 :: a4 :: a5 :: a6 :: a7 :: a8 :: a9 :: L).length) (z_go (pc + n) (z_put1 (a0 :: a1 :: a2 :: a3 :: a4 :: a5 :: a6 :: a7 :: a8 :: a9 :: L) 9 (.ref x)) S M)) y pn M Q = _
  rw [zp_9, show Nat.blt 9 (a0 :: a1 :: a2 :: a3 :: a4 :: a5 :: a6 :: a7 :: a8 :: a9 :: L).length = true from by simp [Nat.blt]]; rfl
theorem zr_lstore_9 {a0 a1 a2 a3 a4 a5 a6 a7 a8 a9 b : Option Value} {x : Int64} : TR (z_st (.lstore 9) n pc (a0 :: a1 :: a2 :: a3 :: a4 :: a5 :: a6 :: a7 :: a8 :: a9 :: b :: L) (.long x :: S) M) y pn M Q = TT y (pc + n) (a0 :: a1 :: a2 :: a3 :: a4 :: a5 :: a6 :: a7 :: z_cz a8 :: some (.long x) :: none :: L) S M Q := by
  show TR (z_if (Nat.blt (9 + 1) (a0 :: a1 :: a2 :: a3 :: a4 :: a5 :: a6 :: a7 :: a8 :: a9 :: b :: L).length) (z_go (pc + n) ((z_put1 (a0 :: a1 :: a2 :: a3 :: a4 :: a5 :: a6 :: a7 :: a8 :: a9 :: b :: L) 9 (.long x)).set (9 + 1) none) S M)) y pn M Q = _
  rw [zp_9, show Nat.blt (9 + 1) (a0 :: a1 :: a2 :: a3 :: a4 :: a5 :: a6 :: a7 :: a8 :: a9 :: b :: L).length = true from by simp [Nat.blt]]; rfl
theorem zp_10 {a0 a1 a2 a3 a4 a5 a6 a7 a8 a9 a10 : Option Value} {v : Value} : z_put1 (a0 :: a1 :: a2 :: a3 :: a4 :: a5 :: a6 :: a7 :: a8 :: a9 :: a10 :: L) 10 v = a0 :: a1 :: a2 :: a3 :: a4 :: a5 :: a6 :: a7 :: a8 :: z_cz a9 :: some v :: L := by
  show (z_clr (a0 :: a1 :: a2 :: a3 :: a4 :: a5 :: a6 :: a7 :: a8 :: a9 :: a10 :: L) 9).set 10 (some v) = _
  simp only [z_clr_s, z_clr_cz, List.set_cons_succ, List.set_cons_zero]
theorem zr_istore_10 {a0 a1 a2 a3 a4 a5 a6 a7 a8 a9 a10 : Option Value} {x : Int32} : TR (z_st (.istore 10) n pc (a0 :: a1 :: a2 :: a3 :: a4 :: a5 :: a6 :: a7 :: a8 :: a9 :: a10 :: L) (.int x :: S) M) y pn M Q = TT y (pc + n) (a0 :: a1 :: a2 :: a3 :: a4 :: a5 :: a6 :: a7 :: a8 :: z_cz a9 :: some (.int x) :: L) S M Q := by
  show TR (z_if (Nat.blt 10 (a0 :: a1 :: a2 :: a3 :: a4 :: a5 :: a6 :: a7 :: a8 :: a9 :: a10 :: L).length) (z_go (pc + n) (z_put1 (a0 :: a1 :: a2 :: a3 :: a4 :: a5 :: a6 :: a7 :: a8 :: a9 :: a10 :: L) 10 (.int x)) S M)) y pn M Q = _
  rw [zp_10, show Nat.blt 10 (a0 :: a1 :: a2 :: a3 :: a4 :: a5 :: a6 :: a7 :: a8 :: a9 :: a10 :: L).length = true from by simp [Nat.blt]]; rfl
theorem zr_astore_10 {a0 a1 a2 a3 a4 a5 a6 a7 a8 a9 a10 : Option Value} {x : Nat} : TR (z_st (.astore 10) n pc (a0 :: a1 :: a2 :: a3 :: a4 :: a5 :: a6 :: a7 :: a8 :: a9 :: a10 :: L) (.ref x :: S) M) y pn M Q = TT y (pc + n) (a0 :: a1 :: a2 :: a3 :: a4 :: a5 :: a6 :: a7 :: a8 :: z_cz a9 :: some (.ref x) :: L) S M Q := by
  show TR (z_if (Nat.blt 10 (a0 :: a1 :: a2 :: a3 :: a4 :: a5 :: a6 :: a7 :: a8 :: a9 :: a10 :: L).length) (z_go (pc + n) (z_put1 (a0 :: a1 :: a2 :: a3 :: a4 :: a5 :: a6 :: a7 :: a8 :: a9 :: a10 :: L) 10 (.ref x)) S M)) y pn M Q = _
  rw [zp_10, show Nat.blt 10 (a0 :: a1 :: a2 :: a3 :: a4 :: a5 :: a6 :: a7 :: a8 :: a9 :: a10 :: L).length = true from by simp [Nat.blt]]; rfl
theorem zr_lstore_10 {a0 a1 a2 a3 a4 a5 a6 a7 a8 a9 a10 b : Option Value} {x : Int64} : TR (z_st (.lstore 10) n pc (a0 :: a1 :: a2 :: a3 :: a4 :: a5 :: a6 :: a7 :: a8 :: a9 :: a10 :: b :: L) (.long x :: S) M) y pn M Q = TT y (pc + n) (a0 :: a1 :: a2 :: a3 :: a4 :: a5 :: a6 :: a7 :: a8 :: z_cz a9 :: some (.long x) :: none :: L) S M Q := by
  show TR (z_if (Nat.blt (10 + 1) (a0 :: a1 :: a2 :: a3 :: a4 :: a5 :: a6 :: a7 :: a8 :: a9 :: a10 :: b :: L).length) (z_go (pc + n) ((z_put1 (a0 :: a1 :: a2 :: a3 :: a4 :: a5 :: a6 :: a7 :: a8 :: a9 :: a10 :: b :: L) 10 (.long x)).set (10 + 1) none) S M)) y pn M Q = _
  rw [zp_10, show Nat.blt (10 + 1) (a0 :: a1 :: a2 :: a3 :: a4 :: a5 :: a6 :: a7 :: a8 :: a9 :: a10 :: b :: L).length = true from by simp [Nat.blt]]; rfl
theorem zp_11 {a0 a1 a2 a3 a4 a5 a6 a7 a8 a9 a10 a11 : Option Value} {v : Value} : z_put1 (a0 :: a1 :: a2 :: a3 :: a4 :: a5 :: a6 :: a7 :: a8 :: a9 :: a10 :: a11 :: L) 11 v = a0 :: a1 :: a2 :: a3 :: a4 :: a5 :: a6 :: a7 :: a8 :: a9 :: z_cz a10 :: some v :: L := by
  show (z_clr (a0 :: a1 :: a2 :: a3 :: a4 :: a5 :: a6 :: a7 :: a8 :: a9 :: a10 :: a11 :: L) 10).set 11 (some v) = _
  simp only [z_clr_s, z_clr_cz, List.set_cons_succ, List.set_cons_zero]
theorem zr_istore_11 {a0 a1 a2 a3 a4 a5 a6 a7 a8 a9 a10 a11 : Option Value} {x : Int32} : TR (z_st (.istore 11) n pc (a0 :: a1 :: a2 :: a3 :: a4 :: a5 :: a6 :: a7 :: a8 :: a9 :: a10 :: a11 :: L) (.int x :: S) M) y pn M Q = TT y (pc + n) (a0 :: a1 :: a2 :: a3 :: a4 :: a5 :: a6 :: a7 :: a8 :: a9 :: z_cz a10 :: some (.int x) :: L) S M Q := by
  show TR (z_if (Nat.blt 11 (a0 :: a1 :: a2 :: a3 :: a4 :: a5 :: a6 :: a7 :: a8 :: a9 :: a10 :: a11 :: L).length) (z_go (pc + n) (z_put1 (a0 :: a1 :: a2 :: a3 :: a4 :: a5 :: a6 :: a7 :: a8 :: a9 :: a10 :: a11 :: L) 11 (.int x)) S M)) y pn M Q = _
  rw [zp_11, show Nat.blt 11 (a0 :: a1 :: a2 :: a3 :: a4 :: a5 :: a6 :: a7 :: a8 :: a9 :: a10 :: a11 :: L).length = true from by simp [Nat.blt]]; rfl
theorem zr_astore_11 {a0 a1 a2 a3 a4 a5 a6 a7 a8 a9 a10 a11 : Option Value} {x : Nat} : TR (z_st (.astore 11) n pc (a0 :: a1 :: a2 :: a3 :: a4 :: a5 :: a6 :: a7 :: a8 :: a9 :: a10 :: a11 :: L) (.ref x :: S) M) y pn M Q = TT y (pc + n) (a0 :: a1 :: a2 :: a3 :: a4 :: a5 :: a6 :: a7 :: a8 :: a9 :: z_cz a10 :: some (.ref x) :: L) S M Q := by
  show TR (z_if (Nat.blt 11 (a0 :: a1 :: a2 :: a3 :: a4 :: a5 :: a6 :: a7 :: a8 :: a9 :: a10 :: a11 :: L).length) (z_go (pc + n) (z_put1 (a0 :: a1 :: a2 :: a3 :: a4 :: a5 :: a6 :: a7 :: a8 :: a9 :: a10 :: a11 :: L) 11 (.ref x)) S M)) y pn M Q = _
  rw [zp_11, show Nat.blt 11 (a0 :: a1 :: a2 :: a3 :: a4 :: a5 :: a6 :: a7 :: a8 :: a9 :: a10 :: a11 :: L).length = true from by simp [Nat.blt]]; rfl
theorem zr_lstore_11 {a0 a1 a2 a3 a4 a5 a6 a7 a8 a9 a10 a11 b : Option Value} {x : Int64} : TR (z_st (.lstore 11) n pc (a0 :: a1 :: a2 :: a3 :: a4 :: a5 :: a6 :: a7 :: a8 :: a9 :: a10 :: a11 :: b :: L) (.long x :: S) M) y pn M Q = TT y (pc + n) (a0 :: a1 :: a2 :: a3 :: a4 :: a5 :: a6 :: a7 :: a8 :: a9 :: z_cz a10 :: some (.long x) :: none :: L) S M Q := by
  show TR (z_if (Nat.blt (11 + 1) (a0 :: a1 :: a2 :: a3 :: a4 :: a5 :: a6 :: a7 :: a8 :: a9 :: a10 :: a11 :: b :: L).length) (z_go (pc + n) ((z_put1 (a0 :: a1 :: a2 :: a3 :: a4 :: a5 :: a6 :: a7 :: a8 :: a9 :: a10 :: a11 :: b :: L) 11 (.long x)).set (11 + 1) none) S M)) y pn M Q = _
  rw [zp_11, show Nat.blt (11 + 1) (a0 :: a1 :: a2 :: a3 :: a4 :: a5 :: a6 :: a7 :: a8 :: a9 :: a10 :: a11 :: b :: L).length = true from by simp [Nat.blt]]; rfl
theorem zp_12 {a0 a1 a2 a3 a4 a5 a6 a7 a8 a9 a10 a11 a12 : Option Value} {v : Value} : z_put1 (a0 :: a1 :: a2 :: a3 :: a4 :: a5 :: a6 :: a7 :: a8 :: a9 :: a10 :: a11 :: a12 :: L) 12 v = a0 :: a1 :: a2 :: a3 :: a4 :: a5 :: a6 :: a7 :: a8 :: a9 :: a10 :: z_cz a11 :: some v :: L := by
  show (z_clr (a0 :: a1 :: a2 :: a3 :: a4 :: a5 :: a6 :: a7 :: a8 :: a9 :: a10 :: a11 :: a12 :: L) 11).set 12 (some v) = _
  simp only [z_clr_s, z_clr_cz, List.set_cons_succ, List.set_cons_zero]
theorem zr_istore_12 {a0 a1 a2 a3 a4 a5 a6 a7 a8 a9 a10 a11 a12 : Option Value} {x : Int32} : TR (z_st (.istore 12) n pc (a0 :: a1 :: a2 :: a3 :: a4 :: a5 :: a6 :: a7 :: a8 :: a9 :: a10 :: a11 :: a12 :: L) (.int x :: S) M) y pn M Q = TT y (pc + n) (a0 :: a1 :: a2 :: a3 :: a4 :: a5 :: a6 :: a7 :: a8 :: a9 :: a10 :: z_cz a11 :: some (.int x) :: L) S M Q := by
  show TR (z_if (Nat.blt 12 (a0 :: a1 :: a2 :: a3 :: a4 :: a5 :: a6 :: a7 :: a8 :: a9 :: a10 :: a11 :: a12 :: L).length) (z_go (pc + n) (z_put1 (a0 :: a1 :: a2 :: a3 :: a4 :: a5 :: a6 :: a7 :: a8 :: a9 :: a10 :: a11 :: a12 :: L) 12 (.int x)) S M)) y pn M Q = _
  rw [zp_12, show Nat.blt 12 (a0 :: a1 :: a2 :: a3 :: a4 :: a5 :: a6 :: a7 :: a8 :: a9 :: a10 :: a11 :: a12 :: L).length = true from by simp [Nat.blt]]; rfl
theorem zr_astore_12 {a0 a1 a2 a3 a4 a5 a6 a7 a8 a9 a10 a11 a12 : Option Value} {x : Nat} : TR (z_st (.astore 12) n pc (a0 :: a1 :: a2 :: a3 :: a4 :: a5 :: a6 :: a7 :: a8 :: a9 :: a10 :: a11 :: a12 :: L) (.ref x :: S) M) y pn M Q = TT y (pc + n) (a0 :: a1 :: a2 :: a3 :: a4 :: a5 :: a6 :: a7 :: a8 :: a9 :: a10 :: z_cz a11 :: some (.ref x) :: L) S M Q := by
  show TR (z_if (Nat.blt 12 (a0 :: a1 :: a2 :: a3 :: a4 :: a5 :: a6 :: a7 :: a8 :: a9 :: a10 :: a11 :: a12 :: L).length) (z_go (pc + n) (z_put1 (a0 :: a1 :: a2 :: a3 :: a4 :: a5 :: a6 :: a7 :: a8 :: a9 :: a10 :: a11 :: a12 :: L) 12 (.ref x)) S M)) y pn M Q = _
  rw [zp_12, show Nat.blt 12 (a0 :: a1 :: a2 :: a3 :: a4 :: a5 :: a6 :: a7 :: a8 :: a9 :: a10 :: a11 :: a12 :: L).length = true from by simp [Nat.blt]]; rfl
theorem zr_lstore_12 {a0 a1 a2 a3 a4 a5 a6 a7 a8 a9 a10 a11 a12 b : Option Value} {x : Int64} : TR (z_st (.lstore 12) n pc (a0 :: a1 :: a2 :: a3 :: a4 :: a5 :: a6 :: a7 :: a8 :: a9 :: a10 :: a11 :: a12 :: b :: L) (.long x :: S) M) y pn M Q = TT y (pc + n) (a0 :: a1 :: a2 :: a3 :: a4 :: a5 :: a6 :: a7 :: a8 :: a9 :: a10 :: z_cz a11 :: some (.long x) :: none :: L) S M Q := by
  show TR (z_if (Nat.blt (12 + 1) (a0 :: a1 :: a2 :: a3 :: a4 :: a5 :: a6 :: a7 :: a8 :: a9 :: a10 :: a11 :: a12 :: b :: L).length) (z_go (pc + n) ((z_put1 (a0 :: a1 :: a2 :: a3 :: a4 :: a5 :: a6 :: a7 :: a8 :: a9 :: a10 :: a11 :: a12 :: b :: L) 12 (.long x)).set (12 + 1) none) S M)) y pn M Q = _
  rw [zp_12, show Nat.blt (12 + 1) (a0 :: a1 :: a2 :: a3 :: a4 :: a5 :: a6 :: a7 :: a8 :: a9 :: a10 :: a11 :: a12 :: b :: L).length = true from by simp [Nat.blt]]; rfl
theorem zp_13 {a0 a1 a2 a3 a4 a5 a6 a7 a8 a9 a10 a11 a12 a13 : Option Value} {v : Value} : z_put1 (a0 :: a1 :: a2 :: a3 :: a4 :: a5 :: a6 :: a7 :: a8 :: a9 :: a10 :: a11 :: a12 :: a13 :: L) 13 v = a0 :: a1 :: a2 :: a3 :: a4 :: a5 :: a6 :: a7 :: a8 :: a9 :: a10 :: a11 :: z_cz a12 :: some v :: L := by
  show (z_clr (a0 :: a1 :: a2 :: a3 :: a4 :: a5 :: a6 :: a7 :: a8 :: a9 :: a10 :: a11 :: a12 :: a13 :: L) 12).set 13 (some v) = _
  simp only [z_clr_s, z_clr_cz, List.set_cons_succ, List.set_cons_zero]
theorem zr_istore_13 {a0 a1 a2 a3 a4 a5 a6 a7 a8 a9 a10 a11 a12 a13 : Option Value} {x : Int32} : TR (z_st (.istore 13) n pc (a0 :: a1 :: a2 :: a3 :: a4 :: a5 :: a6 :: a7 :: a8 :: a9 :: a10 :: a11 :: a12 :: a13 :: L) (.int x :: S) M) y pn M Q = TT y (pc + n) (a0 :: a1 :: a2 :: a3 :: a4 :: a5 :: a6 :: a7 :: a8 :: a9 :: a10 :: a11 :: z_cz a12 :: some (.int x) :: L) S M Q := by
  show TR (z_if (Nat.blt 13 (a0 :: a1 :: a2 :: a3 :: a4 :: a5 :: a6 :: a7 :: a8 :: a9 :: a10 :: a11 :: a12 :: a13 :: L).length) (z_go (pc + n) (z_put1 (a0 :: a1 :: a2 :: a3 :: a4 :: a5 :: a6 :: a7 :: a8 :: a9 :: a10 :: a11 :: a12 :: a13 :: L) 13 (.int x)) S M)) y pn M Q = _
  rw [zp_13, show Nat.blt 13 (a0 :: a1 :: a2 :: a3 :: a4 :: a5 :: a6 :: a7 :: a8 :: a9 :: a10 :: a11 :: a12 :: a13 :: L).length = true from by simp [Nat.blt]]; rfl
theorem zr_astore_13 {a0 a1 a2 a3 a4 a5 a6 a7 a8 a9 a10 a11 a12 a13 : Option Value} {x : Nat} : TR (z_st (.astore 13) n pc (a0 :: a1 :: a2 :: a3 :: a4 :: a5 :: a6 :: a7 :: a8 :: a9 :: a10 :: a11 :: a12 :: a13 :: L) (.ref x :: S) M) y pn M Q = TT y (pc + n) (a0 :: a1 :: a2 :: a3 :: a4 :: a5 :: a6 :: a7 :: a8 :: a9 :: a10 :: a11 :: z_cz a12 :: some (.ref x) :: L) S M Q := by
  show TR (z_if (Nat.blt 13 (a0 :: a1 :: a2 :: a3 :: a4 :: a5 :: a6 :: a7 :: a8 :: a9 :: a10 :: a11 :: a12 :: a13 :: L).length) (z_go (pc + n) (z_put1 (a0 :: a1 :: a2 :: a3 :: a4 :: a5 :: a6 :: a7 :: a8 :: a9 :: a10 :: a11 :: a12 :: a13 :: L) 13 (.ref x)) S M)) y pn M Q = _
  rw [zp_13, show Nat.blt 13 (a0 :: a1 :: a2 :: a3 :: a4 :: a5 :: a6 :: a7 :: a8 :: a9 :: a10 :: a11 :: a12 :: a13 :: L).length = true from by simp [Nat.blt]]; rfl
theorem zr_lstore_13 {a0 a1 a2 a3 a4 a5 a6 a7 a8 a9 a10 a11 a12 a13 b : Option Value} {x : Int64} : TR (z_st (.lstore 13) n pc (a0 :: a1 :: a2 :: a3 :: a4 :: a5 :: a6 :: a7 :: a8 :: a9 :: a10 :: a11 :: a12 :: a13 :: b :: L) (.long x :: S) M) y pn M Q = TT y (pc + n) (a0 :: a1 :: a2 :: a3 :: a4 :: a5 :: a6 :: a7 :: a8 :: a9 :: a10 :: a11 :: z_cz a12 :: some (.long x) :: none :: L) S M Q := by
  show TR (z_if (Nat.blt (13 + 1) (a0 :: a1 :: a2 :: a3 :: a4 :: a5 :: a6 :: a7 :: a8 :: a9 :: a10 :: a11 :: a12 :: a13 :: b :: L).length) (z_go (pc + n) ((z_put1 (a0 :: a1 :: a2 :: a3 :: a4 :: a5 :: a6 :: a7 :: a8 :: a9 :: a10 :: a11 :: a12 :: a13 :: b :: L) 13 (.long x)).set (13 + 1) none) S M)) y pn M Q = _
  rw [zp_13, show Nat.blt (13 + 1) (a0 :: a1 :: a2 :: a3 :: a4 :: a5 :: a6 :: a7 :: a8 :: a9 :: a10 :: a11 :: a12 :: a13 :: b :: L).length = true from by simp [Nat.blt]]; rfl
theorem zp_14 {a0 a1 a2 a3 a4 a5 a6 a7 a8 a9 a10 a11 a12 a13 a14 : Option Value} {v : Value} : z_put1 (a0 :: a1 :: a2 :: a3 :: a4 :: a5 :: a6 :: a7 :: a8 :: a9 :: a10 :: a11 :: a12 :: a13 :: a14 :: L) 14 v = a0 :: a1 :: a2 :: a3 :: a4 :: a5 :: a6 :: a7 :: a8 :: a9 :: a10 :: a11 :: a12 :: z_cz a13 :: some v :: L := by
  show (z_clr (a0 :: a1 :: a2 :: a3 :: a4 :: a5 :: a6 :: a7 :: a8 :: a9 :: a10 :: a11 :: a12 :: a13 :: a14 :: L) 13).set 14 (some v) = _
  simp only [z_clr_s, z_clr_cz, List.set_cons_succ, List.set_cons_zero]
theorem zr_istore_14 {a0 a1 a2 a3 a4 a5 a6 a7 a8 a9 a10 a11 a12 a13 a14 : Option Value} {x : Int32} : TR (z_st (.istore 14) n pc (a0 :: a1 :: a2 :: a3 :: a4 :: a5 :: a6 :: a7 :: a8 :: a9 :: a10 :: a11 :: a12 :: a13 :: a14 :: L) (.int x :: S) M) y pn M Q = TT y (pc + n) (a0 :: a1 :: a2 :: a3 :: a4 :: a5 :: a6 :: a7 :: a8 :: a9 :: a10 :: a11 :: a12 :: z_cz a13 :: some (.int x) :: L) S M Q := by
  show TR (z_if (Nat.blt 14 (a0 :: a1 :: a2 :: a3 :: a4 :: a5 :: a6 :: a7 :: a8 :: a9 :: a10 :: a11 :: a12 :: a13 :: a14 :: L).length) (z_go (pc + n) (z_put1 (a0 :: a1 :: a2 :: a3 :: a4 :: a5 :: a6 :: a7 :: a8 :: a9 :: a10 :: a11 :: a12 :: a13 :: a14 :: L) 14 (.int x)) S M)) y pn M Q = _
  rw [zp_14, show Nat.blt 14 (a0 :: a1 :: a2 :: a3 :: a4 :: a5 :: a6 :: a7 :: a8 :: a9 :: a10 :: a11 :: a12 :: a13 :: a14 :: L).length = true from by simp [Nat.blt]]; rfl
theorem zr_astore_14 {a0 a1 a2 a3 a4 a5 a6 a7 a8 a9 a10 a11 a12 a13 a14 : Option Value} {x : Nat} : TR (z_st (.astore 14) n pc (a0 :: a1 :: a2 :: a3 :: a4 :: a5 :: a6 :: a7 :: a8 :: a9 :: a10 :: a11 :: a12 :: a13 :: a14 :: L) (.ref x :: S) M) y pn M Q = TT y (pc + n) (a0 :: a1 :: a2 :: a3 :: a4 :: a5 :: a6 :: a7 :: a8 :: a9 :: a10 :: a11 :: a12 :: z_cz a13 :: some (.ref x) :: L) S M Q := by
  show TR (z_if (Nat.blt 14 (a0 :: a1 :: a2 :: a3 :: a4 :: a5 :: a6 :: a7 :: a8 :: a9 :: a10 :: a11 :: a12 :: a13 :: a14 :: L).length) (z_go (pc + n) (z_put1 (a0 :: a1 :: a2 :: a3 :: a4 :: a5 :: a6 :: a7 :: a8 :: a9 :: a10 :: a11 :: a12 :: a13 :: a14 :: L) 14 (.ref x)) S M)) y pn M Q = _
  rw [zp_14, show Nat.blt 14 (a0 :: a1 :: a2 :: a3 :: a4 :: a5 :: a6 :: a7 :: a8 :: a9 :: a10 :: a11 :: a12 :: a13 :: a14 :: L).length = true from by simp [Nat.blt]]; rfl
theorem zr_lstore_14 {a0 a1 a2 a3 a4 a5 a6 a7 a8 a9 a10 a11 a12 a13 a14 b : Option Value} {x : Int64} : TR (z_st (.lstore 14) n pc (a0 :: a1 :: a2 :: a3 :: a4 :: a5 :: a6 :: a7 :: a8 :: a9 :: a10 :: a11 :: a12 :: a13 :: a14 :: b :: L) (.long x :: S) M) y pn M Q = TT y (pc + n) (a0 :: a1 :: a2 :: a3 :: a4 :: a5 :: a6 :: a7 :: a8 :: a9 :: a10 :: a11 :: a12 :: z_cz a13 :: some (.long x) :: none :: L) S M Q := by
  show TR (z_if (Nat.blt (14 + 1) (a0 :: a1 :: a2 :: a3 :: a4 :: a5 :: a6 :: a7 :: a8 :: a9 :: a10 :: a11 :: a12 :: a13 :: a14 :: b :: L).length) (z_go (pc + n) ((z_put1 (a0 :: a1 :: a2 :: a3 :: a4 :: a5 :: a6 :: a7 :: a8 :: a9 :: a10 :: a11 :: a12 :: a13 :: a14 :: b :: L) 14 (.long x)).set (14 + 1) none) S M)) y pn M Q = _
  rw [zp_14, show Nat.blt (14 + 1) (a0 :: a1 :: a2 :: a3 :: a4 :: a5 :: a6 :: a7 :: a8 :: a9 :: a10 :: a11 :: a12 :: a13 :: a14 :: b :: L).length = true from by simp [Nat.blt]]; rfl
theorem zr_iinc_1_m1 {a0 : Option Value} {x : Int32} : TR (z_st (.iinc 1 (-1)) n pc (a0 :: some (.int x) :: L) S M) y pn M Q = TT y (pc + n) (z_cz a0 :: some (.int (x + nM 1)) :: L) S M Q := by
  have h : Int32.ofInt (-1) = nM 1 := by decide +kernel
  show TR (z_if (Nat.blt 1 (a0 :: some (.int x) :: L).length) (z_go (pc + n) (z_put1 (a0 :: some (.int x) :: L) 1 (.int (x + Int32.ofInt (-1)))) S M)) y pn M Q = _
  rw [zp_1, h, show Nat.blt 1 (a0 :: some (.int x) :: L).length = true from by simp [Nat.blt]]; rfl
theorem zr_iinc_1_1 {a0 : Option Value} {x : Int32} : TR (z_st (.iinc 1 1) n pc (a0 :: some (.int x) :: L) S M) y pn M Q = TT y (pc + n) (z_cz a0 :: some (.int (x + nI 1)) :: L) S M Q := by
  have h : Int32.ofInt 1 = nI 1 := by decide +kernel
  show TR (z_if (Nat.blt 1 (a0 :: some (.int x) :: L).length) (z_go (pc + n) (z_put1 (a0 :: some (.int x) :: L) 1 (.int (x + Int32.ofInt 1))) S M)) y pn M Q = _
  rw [zp_1, h, show Nat.blt 1 (a0 :: some (.int x) :: L).length = true from by simp [Nat.blt]]; rfl
theorem zr_iinc_2_m1 {a0 a1 : Option Value} {x : Int32} : TR (z_st (.iinc 2 (-1)) n pc (a0 :: a1 :: some (.int x) :: L) S M) y pn M Q = TT y (pc + n) (a0 :: z_cz a1 :: some (.int (x + nM 1)) :: L) S M Q := by
  have h : Int32.ofInt (-1) = nM 1 := by decide +kernel
  show TR (z_if (Nat.blt 2 (a0 :: a1 :: some (.int x) :: L).length) (z_go (pc + n) (z_put1 (a0 :: a1 :: some (.int x) :: L) 2 (.int (x + Int32.ofInt (-1)))) S M)) y pn M Q = _
  rw [zp_2, h, show Nat.blt 2 (a0 :: a1 :: some (.int x) :: L).length = true from by simp [Nat.blt]]; rfl
theorem zr_iinc_2_1 {a0 a1 : Option Value} {x : Int32} : TR (z_st (.iinc 2 1) n pc (a0 :: a1 :: some (.int x) :: L) S M) y pn M Q = TT y (pc + n) (a0 :: z_cz a1 :: some (.int (x + nI 1)) :: L) S M Q := by
  have h : Int32.ofInt 1 = nI 1 := by decide +kernel
  show TR (z_if (Nat.blt 2 (a0 :: a1 :: some (.int x) :: L).length) (z_go (pc + n) (z_put1 (a0 :: a1 :: some (.int x) :: L) 2 (.int (x + Int32.ofInt 1))) S M)) y pn M Q = _
  rw [zp_2, h, show Nat.blt 2 (a0 :: a1 :: some (.int x) :: L).length = true from by simp [Nat.blt]]; rfl
theorem zr_iinc_3_1 {a0 a1 a2 : Option Value} {x : Int32} : TR (z_st (.iinc 3 1) n pc (a0 :: a1 :: a2 :: some (.int x) :: L) S M) y pn M Q = TT y (pc + n) (a0 :: a1 :: z_cz a2 :: some (.int (x + nI 1)) :: L) S M Q := by
  have h : Int32.ofInt 1 = nI 1 := by decide +kernel
  show TR (z_if (Nat.blt 3 (a0 :: a1 :: a2 :: some (.int x) :: L).length) (z_go (pc + n) (z_put1 (a0 :: a1 :: a2 :: some (.int x) :: L) 3 (.int (x + Int32.ofInt 1))) S M)) y pn M Q = _
  rw [zp_3, h, show Nat.blt 3 (a0 :: a1 :: a2 :: some (.int x) :: L).length = true from by simp [Nat.blt]]; rfl
theorem zr_iinc_3_6 {a0 a1 a2 : Option Value} {x : Int32} : TR (z_st (.iinc 3 6) n pc (a0 :: a1 :: a2 :: some (.int x) :: L) S M) y pn M Q = TT y (pc + n) (a0 :: a1 :: z_cz a2 :: some (.int (x + nI 6)) :: L) S M Q := by
  have h : Int32.ofInt 6 = nI 6 := by decide +kernel
  show TR (z_if (Nat.blt 3 (a0 :: a1 :: a2 :: some (.int x) :: L).length) (z_go (pc + n) (z_put1 (a0 :: a1 :: a2 :: some (.int x) :: L) 3 (.int (x + Int32.ofInt 6))) S M)) y pn M Q = _
  rw [zp_3, h, show Nat.blt 3 (a0 :: a1 :: a2 :: some (.int x) :: L).length = true from by simp [Nat.blt]]; rfl
theorem zr_iinc_4_m1 {a0 a1 a2 a3 : Option Value} {x : Int32} : TR (z_st (.iinc 4 (-1)) n pc (a0 :: a1 :: a2 :: a3 :: some (.int x) :: L) S M) y pn M Q = TT y (pc + n) (a0 :: a1 :: a2 :: z_cz a3 :: some (.int (x + nM 1)) :: L) S M Q := by
  have h : Int32.ofInt (-1) = nM 1 := by decide +kernel
  show TR (z_if (Nat.blt 4 (a0 :: a1 :: a2 :: a3 :: some (.int x) :: L).length) (z_go (pc + n) (z_put1 (a0 :: a1 :: a2 :: a3 :: some (.int x) :: L) 4 (.int (x + Int32.ofInt (-1)))) S M)) y pn M Q = _
  rw [zp_4, h, show Nat.blt 4 (a0 :: a1 :: a2 :: a3 :: some (.int x) :: L).length = true from by simp [Nat.blt]]; rfl
theorem zr_iinc_4_1 {a0 a1 a2 a3 : Option Value} {x : Int32} : TR (z_st (.iinc 4 1) n pc (a0 :: a1 :: a2 :: a3 :: some (.int x) :: L) S M) y pn M Q = TT y (pc + n) (a0 :: a1 :: a2 :: z_cz a3 :: some (.int (x + nI 1)) :: L) S M Q := by
  have h : Int32.ofInt 1 = nI 1 := by decide +kernel
  show TR (z_if (Nat.blt 4 (a0 :: a1 :: a2 :: a3 :: some (.int x) :: L).length) (z_go (pc + n) (z_put1 (a0 :: a1 :: a2 :: a3 :: some (.int x) :: L) 4 (.int (x + Int32.ofInt 1))) S M)) y pn M Q = _
  rw [zp_4, h, show Nat.blt 4 (a0 :: a1 :: a2 :: a3 :: some (.int x) :: L).length = true from by simp [Nat.blt]]; rfl
theorem zr_iinc_5_1 {a0 a1 a2 a3 a4 : Option Value} {x : Int32} : TR (z_st (.iinc 5 1) n pc (a0 :: a1 :: a2 :: a3 :: a4 :: some (.int x) :: L) S M) y pn M Q = TT y (pc + n) (a0 :: a1 :: a2 :: a3 :: z_cz a4 :: some (.int (x + nI 1)) :: L) S M Q := by
  have h : Int32.ofInt 1 = nI 1 := by decide +kernel
  show TR (z_if (Nat.blt 5 (a0 :: a1 :: a2 :: a3 :: a4 :: some (.int x) :: L).length) (z_go (pc + n) (z_put1 (a0 :: a1 :: a2 :: a3 :: a4 :: some (.int x) :: L) 5 (.int (x + Int32.ofInt 1))) S M)) y pn M Q = _
  rw [zp_5, h, show Nat.blt 5 (a0 :: a1 :: a2 :: a3 :: a4 :: some (.int x) :: L).length = true from by simp [Nat.blt]]; rfl
theorem zr_iinc_6_1 {a0 a1 a2 a3 a4 a5 : Option Value} {x : Int32} : TR (z_st (.iinc 6 1) n pc (a0 :: a1 :: a2 :: a3 :: a4 :: a5 :: some (.int x) :: L) S M) y pn M Q = TT y (pc + n) (a0 :: a1 :: a2 :: a3 :: a4 :: z_cz a5 :: some (.int (x + nI 1)) :: L) S M Q := by
  have h : Int32.ofInt 1 = nI 1 := by decide +kernel
  show TR (z_if (Nat.blt 6 (a0 :: a1 :: a2 :: a3 :: a4 :: a5 :: some (.int x) :: L).length) (z_go (pc + n) (z_put1 (a0 :: a1 :: a2 :: a3 :: a4 :: a5 :: some (.int x) :: L) 6 (.int (x + Int32.ofInt 1))) S M)) y pn M Q = _
  rw [zp_6, h, show Nat.blt 6 (a0 :: a1 :: a2 :: a3 :: a4 :: a5 :: some (.int x) :: L).length = true from by simp [Nat.blt]]; rfl
theorem zr_iinc_7_1 {a0 a1 a2 a3 a4 a5 a6 : Option Value} {x : Int32} : TR (z_st (.iinc 7 1) n pc (a0 :: a1 :: a2 :: a3 :: a4 :: a5 :: a6 :: some (.int x) :: L) S M) y pn M Q = TT y (pc + n) (a0 :: a1 :: a2 :: a3 :: a4 :: a5 :: z_cz a6 :: some (.int (x + nI 1)) :: L) S M Q := by
  have h : Int32.ofInt 1 = nI 1 := by decide +kernel
  show TR (z_if (Nat.blt 7 (a0 :: a1 :: a2 :: a3 :: a4 :: a5 :: a6 :: some (.int x) :: L).length) (z_go (pc + n) (z_put1 (a0 :: a1 :: a2 :: a3 :: a4 :: a5 :: a6 :: some (.int x) :: L) 7 (.int (x + Int32.ofInt 1))) S M)) y pn M Q = _
  rw [zp_7, h, show Nat.blt 7 (a0 :: a1 :: a2 :: a3 :: a4 :: a5 :: a6 :: some (.int x) :: L).length = true from by simp [Nat.blt]]; rfl
theorem zr_iinc_9_1 {a0 a1 a2 a3 a4 a5 a6 a7 a8 : Option Value} {x : Int32} : TR (z_st (.iinc 9 1) n pc (a0 :: a1 :: a2 :: a3 :: a4 :: a5 :: a6 :: a7 :: a8 :: some (.int x) :: L) S M) y pn M Q = TT y (pc + n) (a0 :: a1 :: a2 :: a3 :: a4 :: a5 :: a6 :: a7 :: z_cz a8 :: some (.int (x + nI 1)) :: L) S M Q := by
  have h : Int32.ofInt 1 = nI 1 := by decide +kernel
  show TR (z_if (Nat.blt 9 (a0 :: a1 :: a2 :: a3 :: a4 :: a5 :: a6 :: a7 :: a8 :: some (.int x) :: L).length) (z_go (pc + n) (z_put1 (a0 :: a1 :: a2 :: a3 :: a4 :: a5 :: a6 :: a7 :: a8 :: some (.int x) :: L) 9 (.int (x + Int32.ofInt 1))) S M)) y pn M Q = _
  rw [zp_9, h, show Nat.blt 9 (a0 :: a1 :: a2 :: a3 :: a4 :: a5 :: a6 :: a7 :: a8 :: some (.int x) :: L).length = true from by simp [Nat.blt]]; rfl
theorem zr_iinc_12_1 {a0 a1 a2 a3 a4 a5 a6 a7 a8 a9 a10 a11 : Option Value} {x : Int32} : TR (z_st (.iinc 12 1) n pc (a0 :: a1 :: a2 :: a3 :: a4 :: a5 :: a6 :: a7 :: a8 :: a9 :: a10 :: a11 :: some (.int x) :: L) S M) y pn M Q = TT y (pc + n) (a0 :: a1 :: a2 :: a3 :: a4 :: a5 :: a6 :: a7 :: a8 :: a9 :: a10 :: z_cz a11 :: some (.int (x + nI 1)) :: L) S M Q := by
  have h : Int32.ofInt 1 = nI 1 := by decide +kernel
  show TR (z_if (Nat.blt 12 (a0 :: a1 :: a2 :: a3 :: a4 :: a5 :: a6 :: a7 :: a8 :: a9 :: a10 :: a11 :: some (.int x) :: L).length) (z_go (pc + n) (z_put1 (a0 :: a1 :: a2 :: a3 :: a4 :: a5 :: a6 :: a7 :: a8 :: a9 :: a10 :: a11 :: some (.int x) :: L) 12 (.int (x + Int32.ofInt 1))) S M)) y pn M Q = _
  rw [zp_12, h, show Nat.blt 12 (a0 :: a1 :: a2 :: a3 :: a4 :: a5 :: a6 :: a7 :: a8 :: a9 :: a10 :: a11 :: some (.int x) :: L).length = true from by simp [Nat.blt]]; rfl
theorem zr_iinc_14_1 {a0 a1 a2 a3 a4 a5 a6 a7 a8 a9 a10 a11 a12 a13 : Option Value} {x : Int32} : TR (z_st (.iinc 14 1) n pc (a0 :: a1 :: a2 :: a3 :: a4 :: a5 :: a6 :: a7 :: a8 :: a9 :: a10 :: a11 :: a12 :: a13 :: some (.int x) :: L) S M) y pn M Q = TT y (pc + n) (a0 :: a1 :: a2 :: a3 :: a4 :: a5 :: a6 :: a7 :: a8 :: a9 :: a10 :: a11 :: a12 :: z_cz a13 :: some (.int (x + nI 1)) :: L) S M Q := by
  have h : Int32.ofInt 1 = nI 1 := by decide +kernel
  show TR (z_if (Nat.blt 14 (a0 :: a1 :: a2 :: a3 :: a4 :: a5 :: a6 :: a7 :: a8 :: a9 :: a10 :: a11 :: a12 :: a13 :: some (.int x) :: L).length) (z_go (pc + n) (z_put1 (a0 :: a1 :: a2 :: a3 :: a4 :: a5 :: a6 :: a7 :: a8 :: a9 :: a10 :: a11 :: a12 :: a13 :: some (.int x) :: L) 14 (.int (x + Int32.ofInt 1))) S M)) y pn M Q = _
  rw [zp_14, h, show Nat.blt 14 (a0 :: a1 :: a2 :: a3 :: a4 :: a5 :: a6 :: a7 :: a8 :: a9 :: a10 :: a11 :: a12 :: a13 :: some (.int x) :: L).length = true from by simp [Nat.blt]]; rfl
theorem zr_iadd {x z : Int32} : TR (z_st (.iadd) n pc L (.int z :: .int x :: r) M) y pn M Q = TT y (pc + n) L (.int (x + z) :: r) M Q := rfl
theorem zr_isub {x z : Int32} : TR (z_st (.isub) n pc L (.int z :: .int x :: r) M) y pn M Q = TT y (pc + n) L (.int (x - z) :: r) M Q := rfl
theorem zr_imul {x z : Int32} : TR (z_st (.imul) n pc L (.int z :: .int x :: r) M) y pn M Q = TT y (pc + n) L (.int (x * z) :: r) M Q := rfl
theorem zr_iand {x z : Int32} : TR (z_st (.iand) n pc L (.int z :: .int x :: r) M) y pn M Q = TT y (pc + n) L (.int (x &&& z) :: r) M Q := rfl
theorem zr_ior {x z : Int32} : TR (z_st (.ior) n pc L (.int z :: .int x :: r) M) y pn M Q = TT y (pc + n) L (.int (x ||| z) :: r) M Q := rfl
theorem zr_ixor {x z : Int32} : TR (z_st (.ixor) n pc L (.int z :: .int x :: r) M) y pn M Q = TT y (pc + n) L (.int (x ^^^ z) :: r) M Q := rfl
theorem zr_ishl {x z : Int32} : TR (z_st (.ishl) n pc L (.int z :: .int x :: r) M) y pn M Q = TT y (pc + n) L (.int (x <<< (z &&& 31)) :: r) M Q := rfl
theorem zr_ishr {x z : Int32} : TR (z_st (.ishr) n pc L (.int z :: .int x :: r) M) y pn M Q = TT y (pc + n) L (.int (x >>> (z &&& 31)) :: r) M Q := rfl
theorem zr_iushr {x z : Int32} : TR (z_st (.iushr) n pc L (.int z :: .int x :: r) M) y pn M Q = TT y (pc + n) L (.int ((x.toUInt32 >>> (z.toUInt32 &&& Int32.toUInt32 31)).toInt32) :: r) M Q := rfl
theorem zr_idiv {x z : Int32} (h : ¬ z = 0) : TR (z_st (.idiv) n pc L (.int z :: .int x :: r) M) y pn M Q = TT y (pc + n) L (.int (x / z) :: r) M Q := by
  show TR (z_if (!decide (z = 0)) _) y pn M Q = _
  rw [decide_eq_false h]; rfl
theorem zr_irem {x z : Int32} (h : ¬ z = 0) : TR (z_st (.irem) n pc L (.int z :: .int x :: r) M) y pn M Q = TT y (pc + n) L (.int (x - x / z * z) :: r) M Q := by
  show TR (z_if (!decide (z = 0)) _) y pn M Q = _
  rw [decide_eq_false h]; rfl
theorem zr_fadd {x z : Int32} (h : z_le4 r = true) : TR (z_st (.fadd) n pc L (.int z :: .int x :: r) M) y pn M Q = TT y (pc + n) L (.int (if x < z then z else x) :: r) M Q := by
  show TR (z_if (Nat.ble r.length 4) _) y pn M Q = _
  rw [z_le4_ble h]; rfl
theorem zr_fsub {x z : Int32} (h : z_le4 r = true) : TR (z_st (.fsub) n pc L (.int z :: .int x :: r) M) y pn M Q = TT y (pc + n) L (.int (if z < x then z else x) :: r) M Q := by
  show TR (z_if (Nat.ble r.length 4) _) y pn M Q = _
  rw [z_le4_ble h]; rfl
theorem zr_ladd {x z : Int64} : TR (z_st (.ladd) n pc L (.long z :: .long x :: r) M) y pn M Q = TT y (pc + n) L (.long (x + z) :: r) M Q := rfl
theorem zr_lsub {x z : Int64} : TR (z_st (.lsub) n pc L (.long z :: .long x :: r) M) y pn M Q = TT y (pc + n) L (.long (x - z) :: r) M Q := rfl
theorem zr_lmul {x z : Int64} : TR (z_st (.lmul) n pc L (.long z :: .long x :: r) M) y pn M Q = TT y (pc + n) L (.long (x * z) :: r) M Q := rfl
theorem zr_land {x z : Int64} : TR (z_st (.land) n pc L (.long z :: .long x :: r) M) y pn M Q = TT y (pc + n) L (.long (x &&& z) :: r) M Q := rfl
theorem zr_lor {x z : Int64} : TR (z_st (.lor) n pc L (.long z :: .long x :: r) M) y pn M Q = TT y (pc + n) L (.long (x ||| z) :: r) M Q := rfl
theorem zr_ldiv {x z : Int64} (h : ¬ z = 0) : TR (z_st (.ldiv) n pc L (.long z :: .long x :: r) M) y pn M Q = TT y (pc + n) L (.long (x / z) :: r) M Q := by
  show TR (z_if (!decide (z = 0)) _) y pn M Q = _
  rw [decide_eq_false h]; rfl
theorem zr_lrem {x z : Int64} (h : ¬ z = 0) : TR (z_st (.lrem) n pc L (.long z :: .long x :: r) M) y pn M Q = TT y (pc + n) L (.long (x - x / z * z) :: r) M Q := by
  show TR (z_if (!decide (z = 0)) _) y pn M Q = _
  rw [decide_eq_false h]; rfl
theorem zr_lshl {x : Int64} {z : Int32} : TR (z_st .lshl n pc L (.int z :: .long x :: r) M) y pn M Q = TT y (pc + n) L (.long (x <<< (z.toInt64 &&& 63)) :: r) M Q := rfl
theorem zr_lshr {x : Int64} {z : Int32} : TR (z_st .lshr n pc L (.int z :: .long x :: r) M) y pn M Q = TT y (pc + n) L (.long (x >>> (z.toInt64 &&& 63)) :: r) M Q := rfl
theorem zr_lcmp {x z : Int64} : TR (z_st .lcmp n pc L (.long z :: .long x :: r) M) y pn M Q = TT y (pc + n) L (.int (lg_cmp x z) :: r) M Q := rfl
theorem zr_i2l {x : Int32} : TR (z_st .i2l n pc L (.int x :: r) M) y pn M Q = TT y (pc + n) L (.long x.toInt64 :: r) M Q := rfl
theorem zr_l2i {x : Int64} : TR (z_st .l2i n pc L (.long x :: r) M) y pn M Q = TT y (pc + n) L (.int x.toInt32 :: r) M Q := rfl
theorem zr_i2c {x : Int32} : TR (z_st .i2c n pc L (.int x :: r) M) y pn M Q = TT y (pc + n) L (.int (x.toUInt32 % 65536).toInt32 :: r) M Q := rfl
theorem zr_dup_r {x : Nat} : TR (z_st .dup n pc L (.ref x :: r) M) y pn M Q = TT y (pc + n) L (.ref x :: .ref x :: r) M Q := rfl
theorem zr_dup_i {x : Int32} : TR (z_st .dup n pc L (.int x :: r) M) y pn M Q = TT y (pc + n) L (.int x :: .int x :: r) M Q := rfl
theorem zr_dup2 {x : Int32} {b : Nat} : TR (z_st .dup2 n pc L (.int x :: .ref b :: r) M) y pn M Q = TT y (pc + n) L (.int x :: .ref b :: .int x :: .ref b :: r) M Q := rfl
theorem zr_pop {x : Int32} : TR (z_st .pop n pc L (.int x :: r) M) y pn M Q = TT y (pc + n) L r M Q := rfl
theorem zr_goto {t : Int} : TR (z_st (.goto t) n pc L S M) y pn M Q = TT y t.toNat L S M Q := rfl
theorem z_br {b : Bool} {P : Prop} [Decidable P] {t f : Nat} (hb : b = decide P) : TT y (cond b t f) L S M Q = ((P → TT y t L S M Q) ∧ (¬ P → TT y f L S M Q)) := by
  subst hb
  by_cases h : P
  · simp [h]
  · simp [h]
theorem zr_icmp_eq {x z : Int32} {t : Int} : TR (z_st (.if_icmp .eq t) n pc L (.int z :: .int x :: r) M) y pn M Q = ((x = z → TT y t.toNat L r M Q) ∧ (¬ (x = z) → TT y (pc + n) L r M Q)) := z_br (b := z_cmp .eq x z) (P := x = z) rfl
theorem zr_if_eq {x : Int32} {t : Int} : TR (z_st (.ifCond .eq t) n pc L (.int x :: r) M) y pn M Q = ((x = nI 0 → TT y t.toNat L r M Q) ∧ (¬ (x = nI 0) → TT y (pc + n) L r M Q)) := z_br (b := z_cmp .eq x (nI 0)) (P := x = nI 0) rfl
theorem zr_icmp_ne {x z : Int32} {t : Int} : TR (z_st (.if_icmp .ne t) n pc L (.int z :: .int x :: r) M) y pn M Q = ((¬ x = z → TT y t.toNat L r M Q) ∧ (¬ (¬ x = z) → TT y (pc + n) L r M Q)) := z_br (b := z_cmp .ne x z) (P := ¬ x = z) (by simp [z_cmp])
theorem zr_if_ne {x : Int32} {t : Int} : TR (z_st (.ifCond .ne t) n pc L (.int x :: r) M) y pn M Q = ((¬ x = nI 0 → TT y t.toNat L r M Q) ∧ (¬ (¬ x = nI 0) → TT y (pc + n) L r M Q)) := z_br (b := z_cmp .ne x (nI 0)) (P := ¬ x = nI 0) (by simp [z_cmp])
theorem zr_icmp_lt {x z : Int32} {t : Int} : TR (z_st (.if_icmp .lt t) n pc L (.int z :: .int x :: r) M) y pn M Q = ((x < z → TT y t.toNat L r M Q) ∧ (¬ (x < z) → TT y (pc + n) L r M Q)) := z_br (b := z_cmp .lt x z) (P := x < z) rfl
theorem zr_if_lt {x : Int32} {t : Int} : TR (z_st (.ifCond .lt t) n pc L (.int x :: r) M) y pn M Q = ((x < nI 0 → TT y t.toNat L r M Q) ∧ (¬ (x < nI 0) → TT y (pc + n) L r M Q)) := z_br (b := z_cmp .lt x (nI 0)) (P := x < nI 0) rfl
theorem zr_icmp_ge {x z : Int32} {t : Int} : TR (z_st (.if_icmp .ge t) n pc L (.int z :: .int x :: r) M) y pn M Q = ((z ≤ x → TT y t.toNat L r M Q) ∧ (¬ (z ≤ x) → TT y (pc + n) L r M Q)) := z_br (b := z_cmp .ge x z) (P := z ≤ x) rfl
theorem zr_if_ge {x : Int32} {t : Int} : TR (z_st (.ifCond .ge t) n pc L (.int x :: r) M) y pn M Q = ((nI 0 ≤ x → TT y t.toNat L r M Q) ∧ (¬ (nI 0 ≤ x) → TT y (pc + n) L r M Q)) := z_br (b := z_cmp .ge x (nI 0)) (P := nI 0 ≤ x) rfl
theorem zr_icmp_gt {x z : Int32} {t : Int} : TR (z_st (.if_icmp .gt t) n pc L (.int z :: .int x :: r) M) y pn M Q = ((z < x → TT y t.toNat L r M Q) ∧ (¬ (z < x) → TT y (pc + n) L r M Q)) := z_br (b := z_cmp .gt x z) (P := z < x) rfl
theorem zr_if_gt {x : Int32} {t : Int} : TR (z_st (.ifCond .gt t) n pc L (.int x :: r) M) y pn M Q = ((nI 0 < x → TT y t.toNat L r M Q) ∧ (¬ (nI 0 < x) → TT y (pc + n) L r M Q)) := z_br (b := z_cmp .gt x (nI 0)) (P := nI 0 < x) rfl
theorem zr_icmp_le {x z : Int32} {t : Int} : TR (z_st (.if_icmp .le t) n pc L (.int z :: .int x :: r) M) y pn M Q = ((x ≤ z → TT y t.toNat L r M Q) ∧ (¬ (x ≤ z) → TT y (pc + n) L r M Q)) := z_br (b := z_cmp .le x z) (P := x ≤ z) rfl
theorem zr_if_le {x : Int32} {t : Int} : TR (z_st (.ifCond .le t) n pc L (.int x :: r) M) y pn M Q = ((x ≤ nI 0 → TT y t.toNat L r M Q) ∧ (¬ (x ≤ nI 0) → TT y (pc + n) L r M Q)) := z_br (b := z_cmp .le x (nI 0)) (P := x ≤ nI 0) rfl
theorem zr_or {b : Nat} {k : Nat → Option Zr} : TR (z_or (some b) k) y pn M Q = TR (k b) y pn M Q := rfl
theorem zr_go {S1 : List Value} {L1 : Lo} {M1 : Mm} {p1 : Nat} : TR (z_go p1 L1 S1 M1) y pn M Q = TT y p1 L1 S1 M1 Q := rfl
theorem zr_tab {d lo hi : Int} {os : Array Int} {x : Int32} : TR (z_st (.tableswitch d lo hi os) n pc L (.int x :: r) M) y pn M Q = TR (z_or (z_tab d lo hi os x) fun t => z_go t L r M) y pn M Q := rfl
theorem zr_lks {d : Int} {ps : Array (Int × Int)} {x : Int32} : TR (z_st (.lookupswitch d ps) n pc L (.int x :: r) M) y pn M Q = TT y (Op.lookupswitch.offset ps.toList d x.toInt).toNat L r M Q := rfl
theorem zr_gf_0 (h : z_ok nx a 10 = true) : TR (z_st (.fload 0) n pc L (.ref a :: r) (nx, fi, fl, fr)) y pn M Q = TR (z_or (fr a 0) fun b => z_go (pc + n) L (.ref b :: r) (nx, fi, fl, fr)) y pn M Q := by
  show TR (z_if (z_ok nx a 10 && true) _) y pn M Q = _
  rw [h]; rfl
theorem zr_gf_1 (h : z_ok nx a 10 = true) : TR (z_st (.fload 1) n pc L (.ref a :: r) (nx, fi, fl, fr)) y pn M Q = TR (z_or (fr a 1) fun b => z_go (pc + n) L (.ref b :: r) (nx, fi, fl, fr)) y pn M Q := by
  show TR (z_if (z_ok nx a 10 && true) _) y pn M Q = _
  rw [h]; rfl
theorem zr_gf_2 (h : z_ok nx a 10 = true) : TR (z_st (.fload 2) n pc L (.ref a :: r) (nx, fi, fl, fr)) y pn M Q = TR (z_or (fr a 2) fun b => z_go (pc + n) L (.ref b :: r) (nx, fi, fl, fr)) y pn M Q := by
  show TR (z_if (z_ok nx a 10 && true) _) y pn M Q = _
  rw [h]; rfl
theorem zr_gf_3 (h : z_ok nx a 10 = true) : TR (z_st (.fload 3) n pc L (.ref a :: r) (nx, fi, fl, fr)) y pn M Q = TR (z_or (fr a 3) fun b => z_go (pc + n) L (.ref b :: r) (nx, fi, fl, fr)) y pn M Q := by
  show TR (z_if (z_ok nx a 10 && true) _) y pn M Q = _
  rw [h]; rfl
theorem zr_gf_4 (h : z_ok nx a 10 = true) : TR (z_st (.fload 4) n pc L (.ref a :: r) (nx, fi, fl, fr)) y pn M Q = TR (z_or (fr a 4) fun b => z_go (pc + n) L (.ref b :: r) (nx, fi, fl, fr)) y pn M Q := by
  show TR (z_if (z_ok nx a 10 && true) _) y pn M Q = _
  rw [h]; rfl
theorem zr_gf_5 (h : z_ok nx a 10 = true) : TR (z_st (.fload 5) n pc L (.ref a :: r) (nx, fi, fl, fr)) y pn M Q = TR (z_or (fr a 5) fun b => z_go (pc + n) L (.ref b :: r) (nx, fi, fl, fr)) y pn M Q := by
  show TR (z_if (z_ok nx a 10 && true) _) y pn M Q = _
  rw [h]; rfl
theorem zr_gf_6 (h : z_ok nx a 10 = true) : TR (z_st (.fload 6) n pc L (.ref a :: r) (nx, fi, fl, fr)) y pn M Q = TR (z_or (fr a 6) fun b => z_go (pc + n) L (.ref b :: r) (nx, fi, fl, fr)) y pn M Q := by
  show TR (z_if (z_ok nx a 10 && true) _) y pn M Q = _
  rw [h]; rfl
theorem zr_gf_7 (h : z_ok nx a 10 = true) : TR (z_st (.fload 7) n pc L (.ref a :: r) (nx, fi, fl, fr)) y pn M Q = TR (z_or (fr a 7) fun b => z_go (pc + n) L (.ref b :: r) (nx, fi, fl, fr)) y pn M Q := by
  show TR (z_if (z_ok nx a 10 && true) _) y pn M Q = _
  rw [h]; rfl
theorem zr_gf_8 (h : z_ok nx a 10 = true) : TR (z_st (.getfield 8) n pc L (.ref a :: r) (nx, fi, fl, fr)) y pn M Q = TT y (pc + n) L (.int (fi a 8) :: r) (nx, fi, fl, fr) Q := by
  show TR (z_if (z_ok nx a 10 && true) _) y pn M Q = _
  rw [h]; rfl
theorem zr_pf_8 {x : Int32} (h : z_ok nx a 10 = true) : TR (z_st (.putfield 8) n pc L (.int x :: .ref a :: r) (nx, fi, fl, fr)) y pn M Q = TT y (pc + n) L r (nx, u2 fi a 8 x, fl, fr) Q := by
  show TR (z_if (z_ok nx a 10 && true && true) _) y pn M Q = _
  rw [h]; rfl
theorem zr_gf_9 (h : z_ok nx a 10 = true) : TR (z_st (.getfield 9) n pc L (.ref a :: r) (nx, fi, fl, fr)) y pn M Q = TT y (pc + n) L (.int (fi a 9) :: r) (nx, fi, fl, fr) Q := by
  show TR (z_if (z_ok nx a 10 && true) _) y pn M Q = _
  rw [h]; rfl
theorem zr_pf_9 {x : Int32} (h : z_ok nx a 10 = true) : TR (z_st (.putfield 9) n pc L (.int x :: .ref a :: r) (nx, fi, fl, fr)) y pn M Q = TT y (pc + n) L r (nx, u2 fi a 9 x, fl, fr) Q := by
  show TR (z_if (z_ok nx a 10 && true && true) _) y pn M Q = _
  rw [h]; rfl
theorem zr_gf_10 (h : z_ok nx a 10 = true) : TR (z_st (.getfield 10) n pc L (.ref a :: r) (nx, fi, fl, fr)) y pn M Q = TT y (pc + n) L (.int (fi a 10) :: r) (nx, fi, fl, fr) Q := by
  show TR (z_if (z_ok nx a 10 && true) _) y pn M Q = _
  rw [h]; rfl
theorem zr_pf_10 {x : Int32} (h : z_ok nx a 10 = true) : TR (z_st (.putfield 10) n pc L (.int x :: .ref a :: r) (nx, fi, fl, fr)) y pn M Q = TT y (pc + n) L r (nx, u2 fi a 10 x, fl, fr) Q := by
  show TR (z_if (z_ok nx a 10 && true && true) _) y pn M Q = _
  rw [h]; rfl
theorem zr_gf_11 (h : z_ok nx a 11 = true) : TR (z_st (.fload 11) n pc L (.ref a :: r) (nx, fi, fl, fr)) y pn M Q = TR (z_or (fr a 11) fun b => z_go (pc + n) L (.ref b :: r) (nx, fi, fl, fr)) y pn M Q := by
  show TR (z_if (z_ok nx a 11 && true) _) y pn M Q = _
  rw [h]; rfl
theorem zr_gf_12 (h : z_ok nx a 11 = true) : TR (z_st (.getfield 12) n pc L (.ref a :: r) (nx, fi, fl, fr)) y pn M Q = TT y (pc + n) L (.int (fi a 12) :: r) (nx, fi, fl, fr) Q := by
  show TR (z_if (z_ok nx a 11 && true) _) y pn M Q = _
  rw [h]; rfl
theorem zr_pf_12 {x : Int32} (h : z_ok nx a 11 = true) : TR (z_st (.putfield 12) n pc L (.int x :: .ref a :: r) (nx, fi, fl, fr)) y pn M Q = TT y (pc + n) L r (nx, u2 fi a 12 x, fl, fr) Q := by
  show TR (z_if (z_ok nx a 11 && true && true) _) y pn M Q = _
  rw [h]; rfl
theorem zr_gf_13 (h : z_ok nx a 11 = true) : TR (z_st (.getfield 13) n pc L (.ref a :: r) (nx, fi, fl, fr)) y pn M Q = TT y (pc + n) L (.int (fi a 13) :: r) (nx, fi, fl, fr) Q := by
  show TR (z_if (z_ok nx a 11 && true) _) y pn M Q = _
  rw [h]; rfl
theorem zr_pf_13 {x : Int32} (h : z_ok nx a 11 = true) : TR (z_st (.putfield 13) n pc L (.int x :: .ref a :: r) (nx, fi, fl, fr)) y pn M Q = TT y (pc + n) L r (nx, u2 fi a 13 x, fl, fr) Q := by
  show TR (z_if (z_ok nx a 11 && true && true) _) y pn M Q = _
  rw [h]; rfl
theorem zr_gf_14 (h : z_ok nx a 11 = true) : TR (z_st (.fload 14) n pc L (.ref a :: r) (nx, fi, fl, fr)) y pn M Q = TR (z_or (fr a 14) fun b => z_go (pc + n) L (.ref b :: r) (nx, fi, fl, fr)) y pn M Q := by
  show TR (z_if (z_ok nx a 11 && true) _) y pn M Q = _
  rw [h]; rfl
theorem zr_gf_15 (h : z_ok nx a 11 = true) : TR (z_st (.fload 15) n pc L (.ref a :: r) (nx, fi, fl, fr)) y pn M Q = TR (z_or (fr a 15) fun b => z_go (pc + n) L (.ref b :: r) (nx, fi, fl, fr)) y pn M Q := by
  show TR (z_if (z_ok nx a 11 && true) _) y pn M Q = _
  rw [h]; rfl
theorem zr_gf_16 (h : z_ok nx a 11 = true) : TR (z_st (.getfield 16) n pc L (.ref a :: r) (nx, fi, fl, fr)) y pn M Q = TT y (pc + n) L (.int (fi a 16) :: r) (nx, fi, fl, fr) Q := by
  show TR (z_if (z_ok nx a 11 && true) _) y pn M Q = _
  rw [h]; rfl
theorem zr_pf_16 {x : Int32} (h : z_ok nx a 11 = true) : TR (z_st (.putfield 16) n pc L (.int x :: .ref a :: r) (nx, fi, fl, fr)) y pn M Q = TT y (pc + n) L r (nx, u2 fi a 16 x, fl, fr) Q := by
  show TR (z_if (z_ok nx a 11 && true && true) _) y pn M Q = _
  rw [h]; rfl
theorem zr_gf_17 (h : z_ok nx a 12 = true) : TR (z_st (.fload 17) n pc L (.ref a :: r) (nx, fi, fl, fr)) y pn M Q = TR (z_or (fr a 17) fun b => z_go (pc + n) L (.ref b :: r) (nx, fi, fl, fr)) y pn M Q := by
  show TR (z_if (z_ok nx a 12 && true) _) y pn M Q = _
  rw [h]; rfl
theorem zr_gf_18 (h : z_ok nx a 12 = true) : TR (z_st (.fload 18) n pc L (.ref a :: r) (nx, fi, fl, fr)) y pn M Q = TR (z_or (fr a 18) fun b => z_go (pc + n) L (.ref b :: r) (nx, fi, fl, fr)) y pn M Q := by
  show TR (z_if (z_ok nx a 12 && true) _) y pn M Q = _
  rw [h]; rfl
theorem zr_gf_19 (h : z_ok nx a 12 = true) : TR (z_st (.fload 19) n pc L (.ref a :: r) (nx, fi, fl, fr)) y pn M Q = TR (z_or (fr a 19) fun b => z_go (pc + n) L (.ref b :: r) (nx, fi, fl, fr)) y pn M Q := by
  show TR (z_if (z_ok nx a 12 && true) _) y pn M Q = _
  rw [h]; rfl
theorem zr_gf_20 (h : z_ok nx a 12 = true) : TR (z_st (.fload 20) n pc L (.ref a :: r) (nx, fi, fl, fr)) y pn M Q = TR (z_or (fr a 20) fun b => z_go (pc + n) L (.ref b :: r) (nx, fi, fl, fr)) y pn M Q := by
  show TR (z_if (z_ok nx a 12 && true) _) y pn M Q = _
  rw [h]; rfl
theorem zr_gf_21 (h : z_ok nx a 12 = true) : TR (z_st (.fload 21) n pc L (.ref a :: r) (nx, fi, fl, fr)) y pn M Q = TR (z_or (fr a 21) fun b => z_go (pc + n) L (.ref b :: r) (nx, fi, fl, fr)) y pn M Q := by
  show TR (z_if (z_ok nx a 12 && true) _) y pn M Q = _
  rw [h]; rfl
theorem zr_gf_22 (h : z_ok nx a 12 = true) : TR (z_st (.fload 22) n pc L (.ref a :: r) (nx, fi, fl, fr)) y pn M Q = TR (z_or (fr a 22) fun b => z_go (pc + n) L (.ref b :: r) (nx, fi, fl, fr)) y pn M Q := by
  show TR (z_if (z_ok nx a 12 && true) _) y pn M Q = _
  rw [h]; rfl
theorem zr_gf_23 (h : z_ok nx a 12 = true) : TR (z_st (.fload 23) n pc L (.ref a :: r) (nx, fi, fl, fr)) y pn M Q = TR (z_or (fr a 23) fun b => z_go (pc + n) L (.ref b :: r) (nx, fi, fl, fr)) y pn M Q := by
  show TR (z_if (z_ok nx a 12 && true) _) y pn M Q = _
  rw [h]; rfl
theorem zr_gf_24 (h : z_ok nx a 12 = true) : TR (z_st (.getfield 24) n pc L (.ref a :: r) (nx, fi, fl, fr)) y pn M Q = TT y (pc + n) L (.int (fi a 24) :: r) (nx, fi, fl, fr) Q := by
  show TR (z_if (z_ok nx a 12 && true) _) y pn M Q = _
  rw [h]; rfl
theorem zr_pf_24 {x : Int32} (h : z_ok nx a 12 = true) : TR (z_st (.putfield 24) n pc L (.int x :: .ref a :: r) (nx, fi, fl, fr)) y pn M Q = TT y (pc + n) L r (nx, u2 fi a 24 x, fl, fr) Q := by
  show TR (z_if (z_ok nx a 12 && true && true) _) y pn M Q = _
  rw [h]; rfl
theorem zr_gf_25 (h : z_ok nx a 12 = true) : TR (z_st (.fload 25) n pc L (.ref a :: r) (nx, fi, fl, fr)) y pn M Q = TR (z_or (fr a 25) fun b => z_go (pc + n) L (.ref b :: r) (nx, fi, fl, fr)) y pn M Q := by
  show TR (z_if (z_ok nx a 12 && true) _) y pn M Q = _
  rw [h]; rfl
theorem zr_gf_26 (h : z_ok nx a 12 = true) : TR (z_st (.getfield 26) n pc L (.ref a :: r) (nx, fi, fl, fr)) y pn M Q = TT y (pc + n) L (.int (fi a 26) :: r) (nx, fi, fl, fr) Q := by
  show TR (z_if (z_ok nx a 12 && true) _) y pn M Q = _
  rw [h]; rfl
theorem zr_pf_26 {x : Int32} (h : z_ok nx a 12 = true) : TR (z_st (.putfield 26) n pc L (.int x :: .ref a :: r) (nx, fi, fl, fr)) y pn M Q = TT y (pc + n) L r (nx, u2 fi a 26 x, fl, fr) Q := by
  show TR (z_if (z_ok nx a 12 && true && true) _) y pn M Q = _
  rw [h]; rfl
theorem zr_gf_27 (h : z_ok nx a 12 = true) : TR (z_st (.fload 27) n pc L (.ref a :: r) (nx, fi, fl, fr)) y pn M Q = TR (z_or (fr a 27) fun b => z_go (pc + n) L (.ref b :: r) (nx, fi, fl, fr)) y pn M Q := by
  show TR (z_if (z_ok nx a 12 && true) _) y pn M Q = _
  rw [h]; rfl
theorem zr_gf_28 (h : z_ok nx a 13 = true) : TR (z_st (.fload 28) n pc L (.ref a :: r) (nx, fi, fl, fr)) y pn M Q = TR (z_or (fr a 28) fun b => z_go (pc + n) L (.ref b :: r) (nx, fi, fl, fr)) y pn M Q := by
  show TR (z_if (z_ok nx a 13 && true) _) y pn M Q = _
  rw [h]; rfl
theorem zr_gf_29 (h : z_ok nx a 13 = true) : TR (z_st (.fload 29) n pc L (.ref a :: r) (nx, fi, fl, fr)) y pn M Q = TR (z_or (fr a 29) fun b => z_go (pc + n) L (.ref b :: r) (nx, fi, fl, fr)) y pn M Q := by
  show TR (z_if (z_ok nx a 13 && true) _) y pn M Q = _
  rw [h]; rfl
theorem zr_gf_30 (h : z_ok nx a 13 = true) : TR (z_st (.fload 30) n pc L (.ref a :: r) (nx, fi, fl, fr)) y pn M Q = TR (z_or (fr a 30) fun b => z_go (pc + n) L (.ref b :: r) (nx, fi, fl, fr)) y pn M Q := by
  show TR (z_if (z_ok nx a 13 && true) _) y pn M Q = _
  rw [h]; rfl
theorem zr_gf_31 (h : z_ok nx a 13 = true) : TR (z_st (.fload 31) n pc L (.ref a :: r) (nx, fi, fl, fr)) y pn M Q = TR (z_or (fr a 31) fun b => z_go (pc + n) L (.ref b :: r) (nx, fi, fl, fr)) y pn M Q := by
  show TR (z_if (z_ok nx a 13 && true) _) y pn M Q = _
  rw [h]; rfl
theorem zr_gf_32 (h : z_ok nx a 13 = true) : TR (z_st (.getfield 32) n pc L (.ref a :: r) (nx, fi, fl, fr)) y pn M Q = TT y (pc + n) L (.int (fi a 32) :: r) (nx, fi, fl, fr) Q := by
  show TR (z_if (z_ok nx a 13 && true) _) y pn M Q = _
  rw [h]; rfl
theorem zr_pf_32 {x : Int32} (h : z_ok nx a 13 = true) : TR (z_st (.putfield 32) n pc L (.int x :: .ref a :: r) (nx, fi, fl, fr)) y pn M Q = TT y (pc + n) L r (nx, u2 fi a 32 x, fl, fr) Q := by
  show TR (z_if (z_ok nx a 13 && true && true) _) y pn M Q = _
  rw [h]; rfl
theorem zr_gf_33 (h : z_ok nx a 13 = true) : TR (z_st (.getfield 33) n pc L (.ref a :: r) (nx, fi, fl, fr)) y pn M Q = TT y (pc + n) L (.int (fi a 33) :: r) (nx, fi, fl, fr) Q := by
  show TR (z_if (z_ok nx a 13 && true) _) y pn M Q = _
  rw [h]; rfl
theorem zr_pf_33 {x : Int32} (h : z_ok nx a 13 = true) : TR (z_st (.putfield 33) n pc L (.int x :: .ref a :: r) (nx, fi, fl, fr)) y pn M Q = TT y (pc + n) L r (nx, u2 fi a 33 x, fl, fr) Q := by
  show TR (z_if (z_ok nx a 13 && true && true) _) y pn M Q = _
  rw [h]; rfl
theorem zr_gf_34 (h : z_ok nx a 14 = true) : TR (z_st (.fload 34) n pc L (.ref a :: r) (nx, fi, fl, fr)) y pn M Q = TR (z_or (fr a 34) fun b => z_go (pc + n) L (.ref b :: r) (nx, fi, fl, fr)) y pn M Q := by
  show TR (z_if (z_ok nx a 14 && true) _) y pn M Q = _
  rw [h]; rfl
theorem zr_gf_35 (h : z_ok nx a 14 = true) : TR (z_st (.fload 35) n pc L (.ref a :: r) (nx, fi, fl, fr)) y pn M Q = TR (z_or (fr a 35) fun b => z_go (pc + n) L (.ref b :: r) (nx, fi, fl, fr)) y pn M Q := by
  show TR (z_if (z_ok nx a 14 && true) _) y pn M Q = _
  rw [h]; rfl
theorem zr_gf_36 (h : z_ok nx a 15 = true) : TR (z_st (.getfield 36) n pc L (.ref a :: r) (nx, fi, fl, fr)) y pn M Q = TT y (pc + n) L (.int (fi a 36) :: r) (nx, fi, fl, fr) Q := by
  show TR (z_if (z_ok nx a 15 && true) _) y pn M Q = _
  rw [h]; rfl
theorem zr_pf_36 {x : Int32} (h : z_ok nx a 15 = true) : TR (z_st (.putfield 36) n pc L (.int x :: .ref a :: r) (nx, fi, fl, fr)) y pn M Q = TT y (pc + n) L r (nx, u2 fi a 36 x, fl, fr) Q := by
  show TR (z_if (z_ok nx a 15 && true && true) _) y pn M Q = _
  rw [h]; rfl
theorem zr_gf_37 (h : z_ok nx a 15 = true) : TR (z_st (.getfield 37) n pc L (.ref a :: r) (nx, fi, fl, fr)) y pn M Q = TT y (pc + n) L (.int (fi a 37) :: r) (nx, fi, fl, fr) Q := by
  show TR (z_if (z_ok nx a 15 && true) _) y pn M Q = _
  rw [h]; rfl
theorem zr_pf_37 {x : Int32} (h : z_ok nx a 15 = true) : TR (z_st (.putfield 37) n pc L (.int x :: .ref a :: r) (nx, fi, fl, fr)) y pn M Q = TT y (pc + n) L r (nx, u2 fi a 37 x, fl, fr) Q := by
  show TR (z_if (z_ok nx a 15 && true && true) _) y pn M Q = _
  rw [h]; rfl
theorem zr_gf_38 (h : z_ok nx a 15 = true) : TR (z_st (.getfield 38) n pc L (.ref a :: r) (nx, fi, fl, fr)) y pn M Q = TT y (pc + n) L (.int (fi a 38) :: r) (nx, fi, fl, fr) Q := by
  show TR (z_if (z_ok nx a 15 && true) _) y pn M Q = _
  rw [h]; rfl
theorem zr_pf_38 {x : Int32} (h : z_ok nx a 15 = true) : TR (z_st (.putfield 38) n pc L (.int x :: .ref a :: r) (nx, fi, fl, fr)) y pn M Q = TT y (pc + n) L r (nx, u2 fi a 38 x, fl, fr) Q := by
  show TR (z_if (z_ok nx a 15 && true && true) _) y pn M Q = _
  rw [h]; rfl
theorem zr_gf_39 (h : z_ok nx a 15 = true) : TR (z_st (.getfield 39) n pc L (.ref a :: r) (nx, fi, fl, fr)) y pn M Q = TT y (pc + n) L (.int (fi a 39) :: r) (nx, fi, fl, fr) Q := by
  show TR (z_if (z_ok nx a 15 && true) _) y pn M Q = _
  rw [h]; rfl
theorem zr_pf_39 {x : Int32} (h : z_ok nx a 15 = true) : TR (z_st (.putfield 39) n pc L (.int x :: .ref a :: r) (nx, fi, fl, fr)) y pn M Q = TT y (pc + n) L r (nx, u2 fi a 39 x, fl, fr) Q := by
  show TR (z_if (z_ok nx a 15 && true && true) _) y pn M Q = _
  rw [h]; rfl
theorem zr_gf_40 (h : z_ok nx a 15 = true) : TR (z_st (.getfield 40) n pc L (.ref a :: r) (nx, fi, fl, fr)) y pn M Q = TT y (pc + n) L (.int (fi a 40) :: r) (nx, fi, fl, fr) Q := by
  show TR (z_if (z_ok nx a 15 && true) _) y pn M Q = _
  rw [h]; rfl
theorem zr_pf_40 {x : Int32} (h : z_ok nx a 15 = true) : TR (z_st (.putfield 40) n pc L (.int x :: .ref a :: r) (nx, fi, fl, fr)) y pn M Q = TT y (pc + n) L r (nx, u2 fi a 40 x, fl, fr) Q := by
  show TR (z_if (z_ok nx a 15 && true && true) _) y pn M Q = _
  rw [h]; rfl
theorem zr_gf_41 (h : z_ok nx a 16 = true) : TR (z_st (.fload 41) n pc L (.ref a :: r) (nx, fi, fl, fr)) y pn M Q = TR (z_or (fr a 41) fun b => z_go (pc + n) L (.ref b :: r) (nx, fi, fl, fr)) y pn M Q := by
  show TR (z_if (z_ok nx a 16 && true) _) y pn M Q = _
  rw [h]; rfl
theorem zr_gf_42 (h : z_ok nx a 16 = true) : TR (z_st (.fload 42) n pc L (.ref a :: r) (nx, fi, fl, fr)) y pn M Q = TR (z_or (fr a 42) fun b => z_go (pc + n) L (.ref b :: r) (nx, fi, fl, fr)) y pn M Q := by
  show TR (z_if (z_ok nx a 16 && true) _) y pn M Q = _
  rw [h]; rfl
theorem zr_gf_43 (h : z_ok nx a 16 = true) : TR (z_st (.getfield 43) n pc L (.ref a :: r) (nx, fi, fl, fr)) y pn M Q = TT y (pc + n) L (.int (fi a 43) :: r) (nx, fi, fl, fr) Q := by
  show TR (z_if (z_ok nx a 16 && true) _) y pn M Q = _
  rw [h]; rfl
theorem zr_pf_43 {x : Int32} (h : z_ok nx a 16 = true) : TR (z_st (.putfield 43) n pc L (.int x :: .ref a :: r) (nx, fi, fl, fr)) y pn M Q = TT y (pc + n) L r (nx, u2 fi a 43 x, fl, fr) Q := by
  show TR (z_if (z_ok nx a 16 && true && true) _) y pn M Q = _
  rw [h]; rfl
theorem zr_gf_44 (h : z_ok nx a 16 = true) : TR (z_st (.fload 44) n pc L (.ref a :: r) (nx, fi, fl, fr)) y pn M Q = TR (z_or (fr a 44) fun b => z_go (pc + n) L (.ref b :: r) (nx, fi, fl, fr)) y pn M Q := by
  show TR (z_if (z_ok nx a 16 && true) _) y pn M Q = _
  rw [h]; rfl
theorem zr_gf_45 (h : z_ok nx a 16 = true) : TR (z_st (.getfield 45) n pc L (.ref a :: r) (nx, fi, fl, fr)) y pn M Q = TT y (pc + n) L (.int (fi a 45) :: r) (nx, fi, fl, fr) Q := by
  show TR (z_if (z_ok nx a 16 && true) _) y pn M Q = _
  rw [h]; rfl
theorem zr_pf_45 {x : Int32} (h : z_ok nx a 16 = true) : TR (z_st (.putfield 45) n pc L (.int x :: .ref a :: r) (nx, fi, fl, fr)) y pn M Q = TT y (pc + n) L r (nx, u2 fi a 45 x, fl, fr) Q := by
  show TR (z_if (z_ok nx a 16 && true && true) _) y pn M Q = _
  rw [h]; rfl
theorem zr_gf_46 (h : z_ok nx a 16 = true) : TR (z_st (.getfield 46) n pc L (.ref a :: r) (nx, fi, fl, fr)) y pn M Q = TT y (pc + n) L (.int (fi a 46) :: r) (nx, fi, fl, fr) Q := by
  show TR (z_if (z_ok nx a 16 && true) _) y pn M Q = _
  rw [h]; rfl
theorem zr_pf_46 {x : Int32} (h : z_ok nx a 16 = true) : TR (z_st (.putfield 46) n pc L (.int x :: .ref a :: r) (nx, fi, fl, fr)) y pn M Q = TT y (pc + n) L r (nx, u2 fi a 46 x, fl, fr) Q := by
  show TR (z_if (z_ok nx a 16 && true && true) _) y pn M Q = _
  rw [h]; rfl
theorem zr_gf_47 (h : z_ok nx a 16 = true) : TR (z_st (.getfield 47) n pc L (.ref a :: r) (nx, fi, fl, fr)) y pn M Q = TT y (pc + n) L (.int (fi a 47) :: r) (nx, fi, fl, fr) Q := by
  show TR (z_if (z_ok nx a 16 && true) _) y pn M Q = _
  rw [h]; rfl
theorem zr_pf_47 {x : Int32} (h : z_ok nx a 16 = true) (h2 : z_b01 x = true) : TR (z_st (.putfield 47) n pc L (.int x :: .ref a :: r) (nx, fi, fl, fr)) y pn M Q = TT y (pc + n) L r (nx, u2 fi a 47 x, fl, fr) Q := by
  show TR (z_if (z_ok nx a 16 && true && (false || z_b01 x)) _) y pn M Q = _
  rw [h, h2]; rfl
theorem zr_gf_48 (h : z_ok nx a 16 = true) : TR (z_st (.fload 48) n pc L (.ref a :: r) (nx, fi, fl, fr)) y pn M Q = TR (z_or (fr a 48) fun b => z_go (pc + n) L (.ref b :: r) (nx, fi, fl, fr)) y pn M Q := by
  show TR (z_if (z_ok nx a 16 && true) _) y pn M Q = _
  rw [h]; rfl
theorem zr_gf_49 (h : z_ok nx a 16 = true) : TR (z_st (.getfield 49) n pc L (.ref a :: r) (nx, fi, fl, fr)) y pn M Q = TT y (pc + n) L (.int (fi a 49) :: r) (nx, fi, fl, fr) Q := by
  show TR (z_if (z_ok nx a 16 && true) _) y pn M Q = _
  rw [h]; rfl
theorem zr_pf_49 {x : Int32} (h : z_ok nx a 16 = true) : TR (z_st (.putfield 49) n pc L (.int x :: .ref a :: r) (nx, fi, fl, fr)) y pn M Q = TT y (pc + n) L r (nx, u2 fi a 49 x, fl, fr) Q := by
  show TR (z_if (z_ok nx a 16 && true && true) _) y pn M Q = _
  rw [h]; rfl
theorem zr_gf_50 (h : z_ok nx a 17 = true) : TR (z_st (.fload 50) n pc L (.ref a :: r) (nx, fi, fl, fr)) y pn M Q = TR (z_or (fr a 50) fun b => z_go (pc + n) L (.ref b :: r) (nx, fi, fl, fr)) y pn M Q := by
  show TR (z_if (z_ok nx a 17 && true) _) y pn M Q = _
  rw [h]; rfl
theorem zr_gf_51 (h : z_ok nx a 17 = true) : TR (z_st (.getfield 51) n pc L (.ref a :: r) (nx, fi, fl, fr)) y pn M Q = TT y (pc + n) L (.int (fi a 51) :: r) (nx, fi, fl, fr) Q := by
  show TR (z_if (z_ok nx a 17 && true) _) y pn M Q = _
  rw [h]; rfl
theorem zr_pf_51 {x : Int32} (h : z_ok nx a 17 = true) : TR (z_st (.putfield 51) n pc L (.int x :: .ref a :: r) (nx, fi, fl, fr)) y pn M Q = TT y (pc + n) L r (nx, u2 fi a 51 x, fl, fr) Q := by
  show TR (z_if (z_ok nx a 17 && true && true) _) y pn M Q = _
  rw [h]; rfl
theorem zr_gf_52 (h : z_ok nx a 18 = true) : TR (z_st (.fload 52) n pc L (.ref a :: r) (nx, fi, fl, fr)) y pn M Q = TR (z_or (fr a 52) fun b => z_go (pc + n) L (.ref b :: r) (nx, fi, fl, fr)) y pn M Q := by
  show TR (z_if (z_ok nx a 18 && true) _) y pn M Q = _
  rw [h]; rfl
theorem zr_gf_53 (h : z_ok nx a 18 = true) : TR (z_st (.fload 53) n pc L (.ref a :: r) (nx, fi, fl, fr)) y pn M Q = TR (z_or (fr a 53) fun b => z_go (pc + n) L (.ref b :: r) (nx, fi, fl, fr)) y pn M Q := by
  show TR (z_if (z_ok nx a 18 && true) _) y pn M Q = _
  rw [h]; rfl
theorem zr_gf_54 (h : z_ok nx a 18 = true) : TR (z_st (.fload 54) n pc L (.ref a :: r) (nx, fi, fl, fr)) y pn M Q = TR (z_or (fr a 54) fun b => z_go (pc + n) L (.ref b :: r) (nx, fi, fl, fr)) y pn M Q := by
  show TR (z_if (z_ok nx a 18 && true) _) y pn M Q = _
  rw [h]; rfl
theorem zr_gf_55 (h : z_ok nx a 18 = true) : TR (z_st (.getfield 55) n pc L (.ref a :: r) (nx, fi, fl, fr)) y pn M Q = TT y (pc + n) L (.int (fi a 55) :: r) (nx, fi, fl, fr) Q := by
  show TR (z_if (z_ok nx a 18 && true) _) y pn M Q = _
  rw [h]; rfl
theorem zr_pf_55 {x : Int32} (h : z_ok nx a 18 = true) (h2 : z_b01 x = true) : TR (z_st (.putfield 55) n pc L (.int x :: .ref a :: r) (nx, fi, fl, fr)) y pn M Q = TT y (pc + n) L r (nx, u2 fi a 55 x, fl, fr) Q := by
  show TR (z_if (z_ok nx a 18 && true && (false || z_b01 x)) _) y pn M Q = _
  rw [h, h2]; rfl
theorem zr_gf_56 (h : z_ok nx a 18 = true) : TR (z_st (.getfield 56) n pc L (.ref a :: r) (nx, fi, fl, fr)) y pn M Q = TT y (pc + n) L (.int (fi a 56) :: r) (nx, fi, fl, fr) Q := by
  show TR (z_if (z_ok nx a 18 && true) _) y pn M Q = _
  rw [h]; rfl
theorem zr_pf_56 {x : Int32} (h : z_ok nx a 18 = true) : TR (z_st (.putfield 56) n pc L (.int x :: .ref a :: r) (nx, fi, fl, fr)) y pn M Q = TT y (pc + n) L r (nx, u2 fi a 56 x, fl, fr) Q := by
  show TR (z_if (z_ok nx a 18 && true && true) _) y pn M Q = _
  rw [h]; rfl
theorem zr_gf_57 (h : z_ok nx a 18 = true) : TR (z_st (.fload 57) n pc L (.ref a :: r) (nx, fi, fl, fr)) y pn M Q = TR (z_or (fr a 57) fun b => z_go (pc + n) L (.ref b :: r) (nx, fi, fl, fr)) y pn M Q := by
  show TR (z_if (z_ok nx a 18 && true) _) y pn M Q = _
  rw [h]; rfl
theorem zr_gf_58 (h : z_ok nx a 18 = true) : TR (z_st (.fload 58) n pc L (.ref a :: r) (nx, fi, fl, fr)) y pn M Q = TR (z_or (fr a 58) fun b => z_go (pc + n) L (.ref b :: r) (nx, fi, fl, fr)) y pn M Q := by
  show TR (z_if (z_ok nx a 18 && true) _) y pn M Q = _
  rw [h]; rfl
theorem zr_gf_59 (h : z_ok nx a 18 = true) : TR (z_st (.fload 59) n pc L (.ref a :: r) (nx, fi, fl, fr)) y pn M Q = TR (z_or (fr a 59) fun b => z_go (pc + n) L (.ref b :: r) (nx, fi, fl, fr)) y pn M Q := by
  show TR (z_if (z_ok nx a 18 && true) _) y pn M Q = _
  rw [h]; rfl
theorem zr_gf_60 (h : z_ok nx a 18 = true) : TR (z_st (.fload 60) n pc L (.ref a :: r) (nx, fi, fl, fr)) y pn M Q = TR (z_or (fr a 60) fun b => z_go (pc + n) L (.ref b :: r) (nx, fi, fl, fr)) y pn M Q := by
  show TR (z_if (z_ok nx a 18 && true) _) y pn M Q = _
  rw [h]; rfl
theorem zr_gf_61 (h : z_ok nx a 18 = true) : TR (z_st (.fload 61) n pc L (.ref a :: r) (nx, fi, fl, fr)) y pn M Q = TR (z_or (fr a 61) fun b => z_go (pc + n) L (.ref b :: r) (nx, fi, fl, fr)) y pn M Q := by
  show TR (z_if (z_ok nx a 18 && true) _) y pn M Q = _
  rw [h]; rfl
theorem zr_gf_62 (h : z_ok nx a 18 = true) : TR (z_st (.fload 62) n pc L (.ref a :: r) (nx, fi, fl, fr)) y pn M Q = TR (z_or (fr a 62) fun b => z_go (pc + n) L (.ref b :: r) (nx, fi, fl, fr)) y pn M Q := by
  show TR (z_if (z_ok nx a 18 && true) _) y pn M Q = _
  rw [h]; rfl
theorem zr_gf_63 (h : z_ok nx a 18 = true) : TR (z_st (.fload 63) n pc L (.ref a :: r) (nx, fi, fl, fr)) y pn M Q = TR (z_or (fr a 63) fun b => z_go (pc + n) L (.ref b :: r) (nx, fi, fl, fr)) y pn M Q := by
  show TR (z_if (z_ok nx a 18 && true) _) y pn M Q = _
  rw [h]; rfl
theorem zr_gf_64 (h : z_ok nx a 18 = true) : TR (z_st (.getfield 64) n pc L (.ref a :: r) (nx, fi, fl, fr)) y pn M Q = TT y (pc + n) L (.int (fi a 64) :: r) (nx, fi, fl, fr) Q := by
  show TR (z_if (z_ok nx a 18 && true) _) y pn M Q = _
  rw [h]; rfl
theorem zr_pf_64 {x : Int32} (h : z_ok nx a 18 = true) : TR (z_st (.putfield 64) n pc L (.int x :: .ref a :: r) (nx, fi, fl, fr)) y pn M Q = TT y (pc + n) L r (nx, u2 fi a 64 x, fl, fr) Q := by
  show TR (z_if (z_ok nx a 18 && true && true) _) y pn M Q = _
  rw [h]; rfl
theorem zr_gf_65 (h : z_ok nx a 18 = true) : TR (z_st (.fload 65) n pc L (.ref a :: r) (nx, fi, fl, fr)) y pn M Q = TR (z_or (fr a 65) fun b => z_go (pc + n) L (.ref b :: r) (nx, fi, fl, fr)) y pn M Q := by
  show TR (z_if (z_ok nx a 18 && true) _) y pn M Q = _
  rw [h]; rfl
theorem zr_gf_66 (h : z_ok nx a 18 = true) : TR (z_st (.fload 66) n pc L (.ref a :: r) (nx, fi, fl, fr)) y pn M Q = TR (z_or (fr a 66) fun b => z_go (pc + n) L (.ref b :: r) (nx, fi, fl, fr)) y pn M Q := by
  show TR (z_if (z_ok nx a 18 && true) _) y pn M Q = _
  rw [h]; rfl
theorem zr_gf_67 (h : z_ok nx a 18 = true) : TR (z_st (.fload 67) n pc L (.ref a :: r) (nx, fi, fl, fr)) y pn M Q = TR (z_or (fr a 67) fun b => z_go (pc + n) L (.ref b :: r) (nx, fi, fl, fr)) y pn M Q := by
  show TR (z_if (z_ok nx a 18 && true) _) y pn M Q = _
  rw [h]; rfl
theorem zr_gf_68 (h : z_ok nx a 19 = true) : TR (z_st (.fload 68) n pc L (.ref a :: r) (nx, fi, fl, fr)) y pn M Q = TR (z_or (fr a 68) fun b => z_go (pc + n) L (.ref b :: r) (nx, fi, fl, fr)) y pn M Q := by
  show TR (z_if (z_ok nx a 19 && true) _) y pn M Q = _
  rw [h]; rfl
theorem zr_gf_69 (h : z_ok nx a 19 = true) : TR (z_st (.fload 69) n pc L (.ref a :: r) (nx, fi, fl, fr)) y pn M Q = TR (z_or (fr a 69) fun b => z_go (pc + n) L (.ref b :: r) (nx, fi, fl, fr)) y pn M Q := by
  show TR (z_if (z_ok nx a 19 && true) _) y pn M Q = _
  rw [h]; rfl
theorem zr_gf_70 (h : z_ok nx a 19 = true) : TR (z_st (.getfield 70) n pc L (.ref a :: r) (nx, fi, fl, fr)) y pn M Q = TT y (pc + n) L (.int (fi a 70) :: r) (nx, fi, fl, fr) Q := by
  show TR (z_if (z_ok nx a 19 && true) _) y pn M Q = _
  rw [h]; rfl
theorem zr_pf_70 {x : Int32} (h : z_ok nx a 19 = true) : TR (z_st (.putfield 70) n pc L (.int x :: .ref a :: r) (nx, fi, fl, fr)) y pn M Q = TT y (pc + n) L r (nx, u2 fi a 70 x, fl, fr) Q := by
  show TR (z_if (z_ok nx a 19 && true && true) _) y pn M Q = _
  rw [h]; rfl
theorem zr_gf_71 (h : z_ok nx a 20 = true) : TR (z_st (.fload 71) n pc L (.ref a :: r) (nx, fi, fl, fr)) y pn M Q = TR (z_or (fr a 71) fun b => z_go (pc + n) L (.ref b :: r) (nx, fi, fl, fr)) y pn M Q := by
  show TR (z_if (z_ok nx a 20 && true) _) y pn M Q = _
  rw [h]; rfl
theorem zr_gf_72 (h : z_ok nx a 20 = true) : TR (z_st (.fload 72) n pc L (.ref a :: r) (nx, fi, fl, fr)) y pn M Q = TR (z_or (fr a 72) fun b => z_go (pc + n) L (.ref b :: r) (nx, fi, fl, fr)) y pn M Q := by
  show TR (z_if (z_ok nx a 20 && true) _) y pn M Q = _
  rw [h]; rfl
theorem zr_gf_73 (h : z_ok nx a 20 = true) : TR (z_st (.fload 73) n pc L (.ref a :: r) (nx, fi, fl, fr)) y pn M Q = TR (z_or (fr a 73) fun b => z_go (pc + n) L (.ref b :: r) (nx, fi, fl, fr)) y pn M Q := by
  show TR (z_if (z_ok nx a 20 && true) _) y pn M Q = _
  rw [h]; rfl
theorem zr_gf_74 (h : z_ok nx a 20 = true) : TR (z_st (.getfield 74) n pc L (.ref a :: r) (nx, fi, fl, fr)) y pn M Q = TT y (pc + n) L (.int (fi a 74) :: r) (nx, fi, fl, fr) Q := by
  show TR (z_if (z_ok nx a 20 && true) _) y pn M Q = _
  rw [h]; rfl
theorem zr_pf_74 {x : Int32} (h : z_ok nx a 20 = true) : TR (z_st (.putfield 74) n pc L (.int x :: .ref a :: r) (nx, fi, fl, fr)) y pn M Q = TT y (pc + n) L r (nx, u2 fi a 74 x, fl, fr) Q := by
  show TR (z_if (z_ok nx a 20 && true && true) _) y pn M Q = _
  rw [h]; rfl
theorem zr_gf_75 (h : z_ok nx a 20 = true) : TR (z_st (.fload 75) n pc L (.ref a :: r) (nx, fi, fl, fr)) y pn M Q = TR (z_or (fr a 75) fun b => z_go (pc + n) L (.ref b :: r) (nx, fi, fl, fr)) y pn M Q := by
  show TR (z_if (z_ok nx a 20 && true) _) y pn M Q = _
  rw [h]; rfl
theorem zr_gf_76 (h : z_ok nx a 20 = true) : TR (z_st (.fload 76) n pc L (.ref a :: r) (nx, fi, fl, fr)) y pn M Q = TR (z_or (fr a 76) fun b => z_go (pc + n) L (.ref b :: r) (nx, fi, fl, fr)) y pn M Q := by
  show TR (z_if (z_ok nx a 20 && true) _) y pn M Q = _
  rw [h]; rfl
theorem zr_gf_77 (h : z_ok nx a 20 = true) : TR (z_st (.fload 77) n pc L (.ref a :: r) (nx, fi, fl, fr)) y pn M Q = TR (z_or (fr a 77) fun b => z_go (pc + n) L (.ref b :: r) (nx, fi, fl, fr)) y pn M Q := by
  show TR (z_if (z_ok nx a 20 && true) _) y pn M Q = _
  rw [h]; rfl
theorem zr_gf_78 (h : z_ok nx a 20 = true) : TR (z_st (.getfield 78) n pc L (.ref a :: r) (nx, fi, fl, fr)) y pn M Q = TT y (pc + n) L (.int (fi a 78) :: r) (nx, fi, fl, fr) Q := by
  show TR (z_if (z_ok nx a 20 && true) _) y pn M Q = _
  rw [h]; rfl
theorem zr_pf_78 {x : Int32} (h : z_ok nx a 20 = true) : TR (z_st (.putfield 78) n pc L (.int x :: .ref a :: r) (nx, fi, fl, fr)) y pn M Q = TT y (pc + n) L r (nx, u2 fi a 78 x, fl, fr) Q := by
  show TR (z_if (z_ok nx a 20 && true && true) _) y pn M Q = _
  rw [h]; rfl
theorem zr_gf_79 (h : z_ok nx a 20 = true) : TR (z_st (.getfield 79) n pc L (.ref a :: r) (nx, fi, fl, fr)) y pn M Q = TT y (pc + n) L (.int (fi a 79) :: r) (nx, fi, fl, fr) Q := by
  show TR (z_if (z_ok nx a 20 && true) _) y pn M Q = _
  rw [h]; rfl
theorem zr_pf_79 {x : Int32} (h : z_ok nx a 20 = true) : TR (z_st (.putfield 79) n pc L (.int x :: .ref a :: r) (nx, fi, fl, fr)) y pn M Q = TT y (pc + n) L r (nx, u2 fi a 79 x, fl, fr) Q := by
  show TR (z_if (z_ok nx a 20 && true && true) _) y pn M Q = _
  rw [h]; rfl
theorem zr_gf_80 (h : z_ok nx a 20 = true) : TR (z_st (.getfield 80) n pc L (.ref a :: r) (nx, fi, fl, fr)) y pn M Q = TT y (pc + n) L (.int (fi a 80) :: r) (nx, fi, fl, fr) Q := by
  show TR (z_if (z_ok nx a 20 && true) _) y pn M Q = _
  rw [h]; rfl
theorem zr_pf_80 {x : Int32} (h : z_ok nx a 20 = true) : TR (z_st (.putfield 80) n pc L (.int x :: .ref a :: r) (nx, fi, fl, fr)) y pn M Q = TT y (pc + n) L r (nx, u2 fi a 80 x, fl, fr) Q := by
  show TR (z_if (z_ok nx a 20 && true && true) _) y pn M Q = _
  rw [h]; rfl
theorem zr_gf_81 (h : z_ok nx a 20 = true) : TR (z_st (.getfield 81) n pc L (.ref a :: r) (nx, fi, fl, fr)) y pn M Q = TT y (pc + n) L (.int (fi a 81) :: r) (nx, fi, fl, fr) Q := by
  show TR (z_if (z_ok nx a 20 && true) _) y pn M Q = _
  rw [h]; rfl
theorem zr_pf_81 {x : Int32} (h : z_ok nx a 20 = true) : TR (z_st (.putfield 81) n pc L (.int x :: .ref a :: r) (nx, fi, fl, fr)) y pn M Q = TT y (pc + n) L r (nx, u2 fi a 81 x, fl, fr) Q := by
  show TR (z_if (z_ok nx a 20 && true && true) _) y pn M Q = _
  rw [h]; rfl
theorem zr_gf_82 (h : z_ok nx a 20 = true) : TR (z_st (.getfield 82) n pc L (.ref a :: r) (nx, fi, fl, fr)) y pn M Q = TT y (pc + n) L (.int (fi a 82) :: r) (nx, fi, fl, fr) Q := by
  show TR (z_if (z_ok nx a 20 && true) _) y pn M Q = _
  rw [h]; rfl
theorem zr_pf_82 {x : Int32} (h : z_ok nx a 20 = true) : TR (z_st (.putfield 82) n pc L (.int x :: .ref a :: r) (nx, fi, fl, fr)) y pn M Q = TT y (pc + n) L r (nx, u2 fi a 82 x, fl, fr) Q := by
  show TR (z_if (z_ok nx a 20 && true && true) _) y pn M Q = _
  rw [h]; rfl
theorem zr_gf_83 (h : z_ok nx a 20 = true) : TR (z_st (.getfield 83) n pc L (.ref a :: r) (nx, fi, fl, fr)) y pn M Q = TT y (pc + n) L (.int (fi a 83) :: r) (nx, fi, fl, fr) Q := by
  show TR (z_if (z_ok nx a 20 && true) _) y pn M Q = _
  rw [h]; rfl
theorem zr_pf_83 {x : Int32} (h : z_ok nx a 20 = true) : TR (z_st (.putfield 83) n pc L (.int x :: .ref a :: r) (nx, fi, fl, fr)) y pn M Q = TT y (pc + n) L r (nx, u2 fi a 83 x, fl, fr) Q := by
  show TR (z_if (z_ok nx a 20 && true && true) _) y pn M Q = _
  rw [h]; rfl
theorem zr_gf_84 (h : z_ok nx a 20 = true) : TR (z_st (.getfield 84) n pc L (.ref a :: r) (nx, fi, fl, fr)) y pn M Q = TT y (pc + n) L (.int (fi a 84) :: r) (nx, fi, fl, fr) Q := by
  show TR (z_if (z_ok nx a 20 && true) _) y pn M Q = _
  rw [h]; rfl
theorem zr_pf_84 {x : Int32} (h : z_ok nx a 20 = true) : TR (z_st (.putfield 84) n pc L (.int x :: .ref a :: r) (nx, fi, fl, fr)) y pn M Q = TT y (pc + n) L r (nx, u2 fi a 84 x, fl, fr) Q := by
  show TR (z_if (z_ok nx a 20 && true && true) _) y pn M Q = _
  rw [h]; rfl
theorem zr_gf_85 (h : z_ok nx a 20 = true) : TR (z_st (.getfield 85) n pc L (.ref a :: r) (nx, fi, fl, fr)) y pn M Q = TT y (pc + n) L (.int (fi a 85) :: r) (nx, fi, fl, fr) Q := by
  show TR (z_if (z_ok nx a 20 && true) _) y pn M Q = _
  rw [h]; rfl
theorem zr_pf_85 {x : Int32} (h : z_ok nx a 20 = true) : TR (z_st (.putfield 85) n pc L (.int x :: .ref a :: r) (nx, fi, fl, fr)) y pn M Q = TT y (pc + n) L r (nx, u2 fi a 85 x, fl, fr) Q := by
  show TR (z_if (z_ok nx a 20 && true && true) _) y pn M Q = _
  rw [h]; rfl
theorem zr_gf_86 (h : z_ok nx a 20 = true) : TR (z_st (.fload 86) n pc L (.ref a :: r) (nx, fi, fl, fr)) y pn M Q = TR (z_or (fr a 86) fun b => z_go (pc + n) L (.ref b :: r) (nx, fi, fl, fr)) y pn M Q := by
  show TR (z_if (z_ok nx a 20 && true) _) y pn M Q = _
  rw [h]; rfl
theorem zr_gf_87 (h : z_ok nx a 20 = true) : TR (z_st (.fload 87) n pc L (.ref a :: r) (nx, fi, fl, fr)) y pn M Q = TR (z_or (fr a 87) fun b => z_go (pc + n) L (.ref b :: r) (nx, fi, fl, fr)) y pn M Q := by
  show TR (z_if (z_ok nx a 20 && true) _) y pn M Q = _
  rw [h]; rfl
theorem zr_gf_88 (h : z_ok nx a 20 = true) : TR (z_st (.fload 88) n pc L (.ref a :: r) (nx, fi, fl, fr)) y pn M Q = TR (z_or (fr a 88) fun b => z_go (pc + n) L (.ref b :: r) (nx, fi, fl, fr)) y pn M Q := by
  show TR (z_if (z_ok nx a 20 && true) _) y pn M Q = _
  rw [h]; rfl
theorem zr_gf_89 (h : z_ok nx a 20 = true) : TR (z_st (.fload 89) n pc L (.ref a :: r) (nx, fi, fl, fr)) y pn M Q = TR (z_or (fr a 89) fun b => z_go (pc + n) L (.ref b :: r) (nx, fi, fl, fr)) y pn M Q := by
  show TR (z_if (z_ok nx a 20 && true) _) y pn M Q = _
  rw [h]; rfl
theorem zr_gf_90 (h : z_ok nx a 20 = true) : TR (z_st (.getfield 90) n pc L (.ref a :: r) (nx, fi, fl, fr)) y pn M Q = TT y (pc + n) L (.int (fi a 90) :: r) (nx, fi, fl, fr) Q := by
  show TR (z_if (z_ok nx a 20 && true) _) y pn M Q = _
  rw [h]; rfl
theorem zr_pf_90 {x : Int32} (h : z_ok nx a 20 = true) : TR (z_st (.putfield 90) n pc L (.int x :: .ref a :: r) (nx, fi, fl, fr)) y pn M Q = TT y (pc + n) L r (nx, u2 fi a 90 x, fl, fr) Q := by
  show TR (z_if (z_ok nx a 20 && true && true) _) y pn M Q = _
  rw [h]; rfl
theorem zr_gf_91 (h : z_ok nx a 20 = true) : TR (z_st (.fload 91) n pc L (.ref a :: r) (nx, fi, fl, fr)) y pn M Q = TR (z_or (fr a 91) fun b => z_go (pc + n) L (.ref b :: r) (nx, fi, fl, fr)) y pn M Q := by
  show TR (z_if (z_ok nx a 20 && true) _) y pn M Q = _
  rw [h]; rfl
theorem zr_gf_92 (h : z_ok nx a 20 = true) : TR (z_st (.fload 92) n pc L (.ref a :: r) (nx, fi, fl, fr)) y pn M Q = TR (z_or (fr a 92) fun b => z_go (pc + n) L (.ref b :: r) (nx, fi, fl, fr)) y pn M Q := by
  show TR (z_if (z_ok nx a 20 && true) _) y pn M Q = _
  rw [h]; rfl
theorem zr_gf_93 (h : z_ok nx a 20 = true) : TR (z_st (.fload 93) n pc L (.ref a :: r) (nx, fi, fl, fr)) y pn M Q = TR (z_or (fr a 93) fun b => z_go (pc + n) L (.ref b :: r) (nx, fi, fl, fr)) y pn M Q := by
  show TR (z_if (z_ok nx a 20 && true) _) y pn M Q = _
  rw [h]; rfl
theorem zr_gf_94 (h : z_ok nx a 20 = true) : TR (z_st (.fload 94) n pc L (.ref a :: r) (nx, fi, fl, fr)) y pn M Q = TR (z_or (fr a 94) fun b => z_go (pc + n) L (.ref b :: r) (nx, fi, fl, fr)) y pn M Q := by
  show TR (z_if (z_ok nx a 20 && true) _) y pn M Q = _
  rw [h]; rfl
theorem zr_gf_95 (h : z_ok nx a 20 = true) : TR (z_st (.fload 95) n pc L (.ref a :: r) (nx, fi, fl, fr)) y pn M Q = TR (z_or (fr a 95) fun b => z_go (pc + n) L (.ref b :: r) (nx, fi, fl, fr)) y pn M Q := by
  show TR (z_if (z_ok nx a 20 && true) _) y pn M Q = _
  rw [h]; rfl
theorem zr_gf_96 (h : z_ok nx a 20 = true) : TR (z_st (.fload 96) n pc L (.ref a :: r) (nx, fi, fl, fr)) y pn M Q = TR (z_or (fr a 96) fun b => z_go (pc + n) L (.ref b :: r) (nx, fi, fl, fr)) y pn M Q := by
  show TR (z_if (z_ok nx a 20 && true) _) y pn M Q = _
  rw [h]; rfl
theorem zr_gf_97 (h : z_ok nx a 20 = true) : TR (z_st (.getfield 97) n pc L (.ref a :: r) (nx, fi, fl, fr)) y pn M Q = TT y (pc + n) L (.int (fi a 97) :: r) (nx, fi, fl, fr) Q := by
  show TR (z_if (z_ok nx a 20 && true) _) y pn M Q = _
  rw [h]; rfl
theorem zr_pf_97 {x : Int32} (h : z_ok nx a 20 = true) : TR (z_st (.putfield 97) n pc L (.int x :: .ref a :: r) (nx, fi, fl, fr)) y pn M Q = TT y (pc + n) L r (nx, u2 fi a 97 x, fl, fr) Q := by
  show TR (z_if (z_ok nx a 20 && true && true) _) y pn M Q = _
  rw [h]; rfl
theorem zr_gf_98 (h : z_ok nx a 20 = true) : TR (z_st (.fload 98) n pc L (.ref a :: r) (nx, fi, fl, fr)) y pn M Q = TR (z_or (fr a 98) fun b => z_go (pc + n) L (.ref b :: r) (nx, fi, fl, fr)) y pn M Q := by
  show TR (z_if (z_ok nx a 20 && true) _) y pn M Q = _
  rw [h]; rfl
theorem zr_gf_99 (h : z_ok nx a 20 = true) : TR (z_st (.getfield 99) n pc L (.ref a :: r) (nx, fi, fl, fr)) y pn M Q = TT y (pc + n) L (.int (fi a 99) :: r) (nx, fi, fl, fr) Q := by
  show TR (z_if (z_ok nx a 20 && true) _) y pn M Q = _
  rw [h]; rfl
theorem zr_pf_99 {x : Int32} (h : z_ok nx a 20 = true) : TR (z_st (.putfield 99) n pc L (.int x :: .ref a :: r) (nx, fi, fl, fr)) y pn M Q = TT y (pc + n) L r (nx, u2 fi a 99 x, fl, fr) Q := by
  show TR (z_if (z_ok nx a 20 && true && true) _) y pn M Q = _
  rw [h]; rfl
theorem zr_gf_100 (h : z_ok nx a 20 = true) : TR (z_st (.getfield 100) n pc L (.ref a :: r) (nx, fi, fl, fr)) y pn M Q = TT y (pc + n) L (.int (fi a 100) :: r) (nx, fi, fl, fr) Q := by
  show TR (z_if (z_ok nx a 20 && true) _) y pn M Q = _
  rw [h]; rfl
theorem zr_pf_100 {x : Int32} (h : z_ok nx a 20 = true) : TR (z_st (.putfield 100) n pc L (.int x :: .ref a :: r) (nx, fi, fl, fr)) y pn M Q = TT y (pc + n) L r (nx, u2 fi a 100 x, fl, fr) Q := by
  show TR (z_if (z_ok nx a 20 && true && true) _) y pn M Q = _
  rw [h]; rfl
theorem zr_gf_101 (h : z_ok nx a 20 = true) : TR (z_st (.getfield 101) n pc L (.ref a :: r) (nx, fi, fl, fr)) y pn M Q = TT y (pc + n) L (.int (fi a 101) :: r) (nx, fi, fl, fr) Q := by
  show TR (z_if (z_ok nx a 20 && true) _) y pn M Q = _
  rw [h]; rfl
theorem zr_pf_101 {x : Int32} (h : z_ok nx a 20 = true) : TR (z_st (.putfield 101) n pc L (.int x :: .ref a :: r) (nx, fi, fl, fr)) y pn M Q = TT y (pc + n) L r (nx, u2 fi a 101 x, fl, fr) Q := by
  show TR (z_if (z_ok nx a 20 && true && true) _) y pn M Q = _
  rw [h]; rfl
theorem zr_gf_102 (h : z_ok nx a 20 = true) : TR (z_st (.getfield 102) n pc L (.ref a :: r) (nx, fi, fl, fr)) y pn M Q = TT y (pc + n) L (.int (fi a 102) :: r) (nx, fi, fl, fr) Q := by
  show TR (z_if (z_ok nx a 20 && true) _) y pn M Q = _
  rw [h]; rfl
theorem zr_pf_102 {x : Int32} (h : z_ok nx a 20 = true) : TR (z_st (.putfield 102) n pc L (.int x :: .ref a :: r) (nx, fi, fl, fr)) y pn M Q = TT y (pc + n) L r (nx, u2 fi a 102 x, fl, fr) Q := by
  show TR (z_if (z_ok nx a 20 && true && true) _) y pn M Q = _
  rw [h]; rfl
theorem zr_gf_103 (h : z_ok nx a 20 = true) : TR (z_st (.getfield 103) n pc L (.ref a :: r) (nx, fi, fl, fr)) y pn M Q = TT y (pc + n) L (.int (fi a 103) :: r) (nx, fi, fl, fr) Q := by
  show TR (z_if (z_ok nx a 20 && true) _) y pn M Q = _
  rw [h]; rfl
theorem zr_pf_103 {x : Int32} (h : z_ok nx a 20 = true) : TR (z_st (.putfield 103) n pc L (.int x :: .ref a :: r) (nx, fi, fl, fr)) y pn M Q = TT y (pc + n) L r (nx, u2 fi a 103 x, fl, fr) Q := by
  show TR (z_if (z_ok nx a 20 && true && true) _) y pn M Q = _
  rw [h]; rfl
theorem zr_gf_104 (h : z_ok nx a 20 = true) : TR (z_st (.dload 104) n pc L (.ref a :: r) (nx, fi, fl, fr)) y pn M Q = TT y (pc + n) L (.long (fl a 104) :: r) (nx, fi, fl, fr) Q := by
  show TR (z_if (z_ok nx a 20 && true) _) y pn M Q = _
  rw [h]; rfl
theorem zr_pf_104 {x : Int64} (h : z_ok nx a 20 = true) : TR (z_st (.dstore 104) n pc L (.long x :: .ref a :: r) (nx, fi, fl, fr)) y pn M Q = TT y (pc + n) L r (nx, fi, u2 fl a 104 x, fr) Q := by
  show TR (z_if (z_ok nx a 20 && true) _) y pn M Q = _
  rw [h]; rfl
def z_al (a : Nat) : Nat := z_lnL.getD a 0
theorem z_al_small : ∀ a, z_al a < 5000 := by
  intro a
  by_cases h : a < 151
  · exact (by decide +kernel : ∀ a, a < 151 → z_al a < 5000) a h
  · unfold z_al; rw [List.getD_eq_getElem?_getD, List.getElem?_eq_none (by rw [show z_lnL.length = 151 from rfl]; omega)]; decide
theorem z_ok_kd {nx a k : Nat} (h : z_ok nx a k = true) : a < nx ∧ z_kd a = k := by
  unfold z_ok at h
  simp only [Bool.and_eq_true, Nat.blt_eq] at h
  exact ⟨h.1, Nat.eq_of_beq_eq_true h.2⟩
theorem z_nbeq {k m : Nat} (h : k ≠ m) : Nat.beq k m = false := by
  cases h2 : Nat.beq k m with
  | false => rfl
  | true => exact absurd (Nat.eq_of_beq_eq_true h2) h
theorem z_inb_nI {i k : Nat} (h : i < k) (hk : k < 5000) : z_inb (nI i) k = true := by
  unfold z_inb
  rw [nI_clamp (by omega), decide_eq_false (nI_pos (by omega))]
  simp [Nat.blt_eq, h]
theorem z_len_al {M : Mm} {a : Nat} (h : a ≠ 0) : z_len M a = z_al a := by
  unfold z_len z_al
  rw [show Nat.beq a 0 = false from by cases a with | zero => exact absurd rfl h | succ a => rfl]; rfl
theorem z_ok_len {M : Mm} {nx a k : Nat} (h : z_ok nx a k = true) (hk : k ≠ 9) : z_len M a = z_al a := z_len_al (by rintro rfl; exact hk ((z_ok_kd h).2.symm.trans (by decide)))
theorem z_ia_of {M : Mm} {nx a k i : Nat} (h : z_ok nx a k = true) (h6 : k ≠ 6) (h7 : k ≠ 7) : z_ia M a i = M.2.1 a i := by
  have e := (z_ok_kd h).2
  unfold z_ia
  rw [e, show (Nat.beq k 6 || Nat.beq k 7) = false from by rw [z_nbeq h6, z_nbeq h7]; rfl]; rfl
theorem zr_iald {i : Nat} (h : z_ok nx a 1 = true) (hi : i < z_al a) : TR (z_st .iaload n pc L (.int (nI i) :: .ref a :: r) (nx, fi, fl, fr)) y pn M Q = TT y (pc + n) L (.int (fi a i) :: r) (nx, fi, fl, fr) Q := by
  have e := z_inb_nI hi (z_al_small a)
  rw [← z_ok_len (M := (nx, fi, fl, fr)) h (by decide)] at e
  show TR (z_if ((z_ok nx a 1 || z_ok nx a 6 || z_ok nx a 9) && z_inb (nI i) (z_len (nx, fi, fl, fr) a)) (z_go (pc + n) L (.int (z_ia (nx, fi, fl, fr) a (nI i).toNatClampNeg) :: r) (nx, fi, fl, fr))) y pn M Q = _
  rw [h, e, z_ia_of h (by decide) (by decide), nI_clamp (Nat.lt_trans (Nat.lt_trans hi (z_al_small a)) (by decide))]; rfl
theorem zr_bald {i : Nat} (h : z_ok nx a 2 = true) (hi : i < z_al a) : TR (z_st .baload n pc L (.int (nI i) :: .ref a :: r) (nx, fi, fl, fr)) y pn M Q = TT y (pc + n) L (.int (fi a i) :: r) (nx, fi, fl, fr) Q := by
  have e := z_inb_nI hi (z_al_small a)
  rw [← z_ok_len (M := (nx, fi, fl, fr)) h (by decide)] at e
  show TR (z_if ((z_ok nx a 2 || z_ok nx a 7) && z_inb (nI i) (z_len (nx, fi, fl, fr) a)) (z_go (pc + n) L (.int (z_ia (nx, fi, fl, fr) a (nI i).toNatClampNeg) :: r) (nx, fi, fl, fr))) y pn M Q = _
  rw [h, e, z_ia_of h (by decide) (by decide), nI_clamp (Nat.lt_trans (Nat.lt_trans hi (z_al_small a)) (by decide))]; rfl
theorem zr_lald {i : Nat} (h : z_ok nx a 3 = true) (hi : i < z_al a) : TR (z_st .laload n pc L (.int (nI i) :: .ref a :: r) (nx, fi, fl, fr)) y pn M Q = TT y (pc + n) L (.long (fl a i) :: r) (nx, fi, fl, fr) Q := by
  have e := z_inb_nI hi (z_al_small a)
  rw [← z_ok_len (M := (nx, fi, fl, fr)) h (by decide)] at e
  show TR (z_if (z_ok nx a 3 && z_inb (nI i) (z_len (nx, fi, fl, fr) a)) (z_go (pc + n) L (.long (fl a (nI i).toNatClampNeg) :: r) (nx, fi, fl, fr))) y pn M Q = _
  rw [h, e, nI_clamp (Nat.lt_trans (Nat.lt_trans hi (z_al_small a)) (by decide))]; rfl
theorem zr_aald4 {i : Nat} (h : z_ok nx a 4 = true) (hi : i < z_al a) : TR (z_st .aaload n pc L (.int (nI i) :: .ref a :: r) (nx, fi, fl, fr)) y pn M Q = TR (z_or (fr a i) fun b => z_go (pc + n) L (.ref b :: r) (nx, fi, fl, fr)) y pn M Q := by
  have e := z_inb_nI hi (z_al_small a)
  rw [← z_ok_len (M := (nx, fi, fl, fr)) h (by decide)] at e
  show TR (z_if ((z_ok nx a 4 || z_ok nx a 5) && z_inb (nI i) (z_len (nx, fi, fl, fr) a)) (z_or (fr a (nI i).toNatClampNeg) fun b => z_go (pc + n) L (.ref b :: r) (nx, fi, fl, fr))) y pn M Q = _
  rw [h, e, nI_clamp (Nat.lt_trans (Nat.lt_trans hi (z_al_small a)) (by decide))]; rfl
theorem zr_aald5 {i : Nat} (h : z_ok nx a 5 = true) (hi : i < z_al a) : TR (z_st .aaload n pc L (.int (nI i) :: .ref a :: r) (nx, fi, fl, fr)) y pn M Q = TR (z_or (fr a i) fun b => z_go (pc + n) L (.ref b :: r) (nx, fi, fl, fr)) y pn M Q := by
  have e := z_inb_nI hi (z_al_small a)
  rw [← z_ok_len (M := (nx, fi, fl, fr)) h (by decide)] at e
  show TR (z_if ((z_ok nx a 4 || z_ok nx a 5) && z_inb (nI i) (z_len (nx, fi, fl, fr) a)) (z_or (fr a (nI i).toNatClampNeg) fun b => z_go (pc + n) L (.ref b :: r) (nx, fi, fl, fr))) y pn M Q = _
  rw [h, e, nI_clamp (Nat.lt_trans (Nat.lt_trans hi (z_al_small a)) (by decide))]; simp [z_if]
theorem zr_iast {i : Nat} {x : Int32} (h : z_ok nx a 1 = true) (hi : i < z_al a) : TR (z_st .iastore n pc L (.int x :: .int (nI i) :: .ref a :: r) (nx, fi, fl, fr)) y pn M Q = TT y (pc + n) L r (nx, u2 fi a i x, fl, fr) Q := by
  have e := z_inb_nI hi (z_al_small a)
  rw [← z_ok_len (M := (nx, fi, fl, fr)) h (by decide)] at e
  show TR (z_if (z_ok nx a 1 && z_inb (nI i) (z_len (nx, fi, fl, fr) a)) (z_go (pc + n) L r (nx, u2 fi a (nI i).toNatClampNeg x, fl, fr))) y pn M Q = _
  rw [h, e, nI_clamp (Nat.lt_trans (Nat.lt_trans hi (z_al_small a)) (by decide))]; rfl
theorem zr_bast {i : Nat} {x : Int32} (h : z_ok nx a 2 = true) (hi : i < z_al a) (hx : z_b01 x = true) : TR (z_st .bastore n pc L (.int x :: .int (nI i) :: .ref a :: r) (nx, fi, fl, fr)) y pn M Q = TT y (pc + n) L r (nx, u2 fi a i x, fl, fr) Q := by
  have e := z_inb_nI hi (z_al_small a)
  rw [← z_ok_len (M := (nx, fi, fl, fr)) h (by decide)] at e
  show TR (z_if (z_ok nx a 2 && z_inb (nI i) (z_len (nx, fi, fl, fr) a) && z_b01 x) (z_go (pc + n) L r (nx, u2 fi a (nI i).toNatClampNeg x, fl, fr))) y pn M Q = _
  rw [h, e, hx, nI_clamp (Nat.lt_trans (Nat.lt_trans hi (z_al_small a)) (by decide))]; rfl
theorem zr_last {i : Nat} {x : Int64} (h : z_ok nx a 3 = true) (hi : i < z_al a) : TR (z_st .lastore n pc L (.long x :: .int (nI i) :: .ref a :: r) (nx, fi, fl, fr)) y pn M Q = TT y (pc + n) L r (nx, fi, u2 fl a i x, fr) Q := by
  have e := z_inb_nI hi (z_al_small a)
  rw [← z_ok_len (M := (nx, fi, fl, fr)) h (by decide)] at e
  show TR (z_if (z_ok nx a 3 && z_inb (nI i) (z_len (nx, fi, fl, fr) a)) (z_go (pc + n) L r (nx, fi, u2 fl a (nI i).toNatClampNeg x, fr))) y pn M Q = _
  rw [h, e, nI_clamp (Nat.lt_trans (Nat.lt_trans hi (z_al_small a)) (by decide))]; rfl
theorem zr_alen (h : z_ok nx a 1 = true) : TR (z_st .arraylength n pc L (.ref a :: r) (nx, fi, fl, fr)) y pn M Q = TT y (pc + n) L (.int (nI (z_al a)) :: r) (nx, fi, fl, fr) Q := by
  obtain ⟨e1, e2⟩ := z_ok_kd h
  show TR (z_if (Nat.blt a nx && (Nat.ble 1 (z_kd a) && Nat.ble (z_kd a) 9 && !Nat.beq (z_kd a) 8)) (z_go (pc + n) L (.int (Int32.ofNat (z_len (nx, fi, fl, fr) a)) :: r) (nx, fi, fl, fr))) y pn M Q = _
  rw [z_ok_len h (by decide), e2, show Nat.blt a nx = true from by simpa using e1]; rfl
theorem zr_st_1 {i : Nat} (h : Nat.blt 1 nx = true) (hi : i < 6) : TR (z_st .iaload n pc L (.int (nI i) :: .ref 1 :: r) (nx, fi, fl, fr)) y pn M Q = TT y (pc + n) L (.int ((z_xfL.getD 1 []).getD i 0) :: r) (nx, fi, fl, fr) Q := by
  have e := z_inb_nI (k := 6) hi (by decide)
  show TR (z_if ((z_ok nx 1 1 || z_ok nx 1 6 || z_ok nx 1 9) && z_inb (nI i) 6) (z_go (pc + n) L (.int (((z_xfL.getD 1 []).getD (nI i).toNatClampNeg 0)) :: r) (nx, fi, fl, fr))) y pn M Q = _
  rw [e, nI_clamp (by omega), show z_ok nx 1 6 = true from by unfold z_ok; rw [h]; rfl]; simp [z_if]; rfl
theorem zr_st_2 {i : Nat} (h : Nat.blt 2 nx = true) (hi : i < 6) : TR (z_st .iaload n pc L (.int (nI i) :: .ref 2 :: r) (nx, fi, fl, fr)) y pn M Q = TT y (pc + n) L (.int ((z_xfL.getD 2 []).getD i 0) :: r) (nx, fi, fl, fr) Q := by
  have e := z_inb_nI (k := 6) hi (by decide)
  show TR (z_if ((z_ok nx 2 1 || z_ok nx 2 6 || z_ok nx 2 9) && z_inb (nI i) 6) (z_go (pc + n) L (.int (((z_xfL.getD 2 []).getD (nI i).toNatClampNeg 0)) :: r) (nx, fi, fl, fr))) y pn M Q = _
  rw [e, nI_clamp (by omega), show z_ok nx 2 6 = true from by unfold z_ok; rw [h]; rfl]; simp [z_if]; rfl
theorem zr_st_3 {i : Nat} (h : Nat.blt 3 nx = true) (hi : i < 8) : TR (z_st .iaload n pc L (.int (nI i) :: .ref 3 :: r) (nx, fi, fl, fr)) y pn M Q = TT y (pc + n) L (.int ((z_xfL.getD 3 []).getD i 0) :: r) (nx, fi, fl, fr) Q := by
  have e := z_inb_nI (k := 8) hi (by decide)
  show TR (z_if ((z_ok nx 3 1 || z_ok nx 3 6 || z_ok nx 3 9) && z_inb (nI i) 8) (z_go (pc + n) L (.int (((z_xfL.getD 3 []).getD (nI i).toNatClampNeg 0)) :: r) (nx, fi, fl, fr))) y pn M Q = _
  rw [e, nI_clamp (by omega), show z_ok nx 3 6 = true from by unfold z_ok; rw [h]; rfl]; simp [z_if]; rfl
theorem zr_st_4 {i : Nat} (h : Nat.blt 4 nx = true) (hi : i < 8) : TR (z_st .iaload n pc L (.int (nI i) :: .ref 4 :: r) (nx, fi, fl, fr)) y pn M Q = TT y (pc + n) L (.int ((z_xfL.getD 4 []).getD i 0) :: r) (nx, fi, fl, fr) Q := by
  have e := z_inb_nI (k := 8) hi (by decide)
  show TR (z_if ((z_ok nx 4 1 || z_ok nx 4 6 || z_ok nx 4 9) && z_inb (nI i) 8) (z_go (pc + n) L (.int (((z_xfL.getD 4 []).getD (nI i).toNatClampNeg 0)) :: r) (nx, fi, fl, fr))) y pn M Q = _
  rw [e, nI_clamp (by omega), show z_ok nx 4 6 = true from by unfold z_ok; rw [h]; rfl]; simp [z_if]; rfl
theorem zr_st_5 {i : Nat} (h : Nat.blt 5 nx = true) (hi : i < 8) : TR (z_st .iaload n pc L (.int (nI i) :: .ref 5 :: r) (nx, fi, fl, fr)) y pn M Q = TT y (pc + n) L (.int ((z_xfL.getD 5 []).getD i 0) :: r) (nx, fi, fl, fr) Q := by
  have e := z_inb_nI (k := 8) hi (by decide)
  show TR (z_if ((z_ok nx 5 1 || z_ok nx 5 6 || z_ok nx 5 9) && z_inb (nI i) 8) (z_go (pc + n) L (.int (((z_xfL.getD 5 []).getD (nI i).toNatClampNeg 0)) :: r) (nx, fi, fl, fr))) y pn M Q = _
  rw [e, nI_clamp (by omega), show z_ok nx 5 6 = true from by unfold z_ok; rw [h]; rfl]; simp [z_if]; rfl
theorem zr_st_6 {i : Nat} (h : Nat.blt 6 nx = true) (hi : i < 5) : TR (z_st .iaload n pc L (.int (nI i) :: .ref 6 :: r) (nx, fi, fl, fr)) y pn M Q = TT y (pc + n) L (.int ((z_xfL.getD 6 []).getD i 0) :: r) (nx, fi, fl, fr) Q := by
  have e := z_inb_nI (k := 5) hi (by decide)
  show TR (z_if ((z_ok nx 6 1 || z_ok nx 6 6 || z_ok nx 6 9) && z_inb (nI i) 5) (z_go (pc + n) L (.int (((z_xfL.getD 6 []).getD (nI i).toNatClampNeg 0)) :: r) (nx, fi, fl, fr))) y pn M Q = _
  rw [e, nI_clamp (by omega), show z_ok nx 6 6 = true from by unfold z_ok; rw [h]; rfl]; simp [z_if]; rfl
theorem zr_iv_1  (h : z_ok nx a 20 = true) (hr : z_le4 r = true) : TR (z_st (.invokespecial 1) n pc L (.ref a :: r) (nx, fi, fl, fr)) y pn (nx, fi, fl, fr) Q = TT 1 0 [some (.ref a)] [] (nx, fi, fl, fr) (fun v M1 => TT y pn L (v.toList ++ r) M1 Q) := by
  show TR (z_if (Nat.ble 1 (.ref a :: r).length && Nat.ble r.length 4) (z_if (Nat.ble (z_wd [.ref a]) (z_ml 1) && z_ok nx a 20) (some (.inr (.inr (1, [.ref a], L, r)))))) y pn (nx, fi, fl, fr) Q = _
  rw [z_le4_ble hr, h, show Nat.ble 1 (.ref a :: r).length = true from by simp]; rfl
theorem zr_iv_2 {x0 : Int64} {x1 : Int64} {x2 : Int64} (hr : z_le4 r = true) : TR (z_st (.invokestatic 2) n pc L (.long x2 :: .long x1 :: .long x0 :: r) (nx, fi, fl, fr)) y pn (nx, fi, fl, fr) Q = TT 2 0 [some (.long x0), none, some (.long x1), none, some (.long x2), none] [] (nx, fi, fl, fr) (fun v M1 => TT y pn L (v.toList ++ r) M1 Q) := by
  show TR (z_if (Nat.ble 3 (.long x2 :: .long x1 :: .long x0 :: r).length && Nat.ble r.length 4) (z_if (Nat.ble (z_wd [.long x0, .long x1, .long x2]) (z_ml 2)) (some (.inr (.inr (2, [.long x0, .long x1, .long x2], L, r)))))) y pn (nx, fi, fl, fr) Q = _
  rw [z_le4_ble hr, show Nat.ble 3 (.long x2 :: .long x1 :: .long x0 :: r).length = true from by simp]; rfl
theorem zr_iv_3 {x0 : Int32} (h : z_ok nx a 20 = true) (hr : z_le4 r = true) : TR (z_st (.invokevirtual 3) n pc L (.int x0 :: .ref a :: r) (nx, fi, fl, fr)) y pn (nx, fi, fl, fr) Q = TT 3 0 [some (.ref a), some (.int x0)] [] (nx, fi, fl, fr) (fun v M1 => TT y pn L (v.toList ++ r) M1 Q) := by
  show TR (z_if (Nat.ble 2 (.int x0 :: .ref a :: r).length && Nat.ble r.length 4) (z_if (Nat.ble (z_wd [.ref a, .int x0]) (z_ml 3) && z_ok nx a 20) (some (.inr (.inr (3, [.ref a, .int x0], L, r)))))) y pn (nx, fi, fl, fr) Q = _
  rw [z_le4_ble hr, h, show Nat.ble 2 (.int x0 :: .ref a :: r).length = true from by simp]; rfl
theorem zr_iv_4 {x0 : Int32} (h : z_ok nx a 20 = true) (hr : z_le4 r = true) : TR (z_st (.invokevirtual 4) n pc L (.int x0 :: .ref a :: r) (nx, fi, fl, fr)) y pn (nx, fi, fl, fr) Q = TT 4 0 [some (.ref a), some (.int x0)] [] (nx, fi, fl, fr) (fun v M1 => TT y pn L (v.toList ++ r) M1 Q) := by
  show TR (z_if (Nat.ble 2 (.int x0 :: .ref a :: r).length && Nat.ble r.length 4) (z_if (Nat.ble (z_wd [.ref a, .int x0]) (z_ml 4) && z_ok nx a 20) (some (.inr (.inr (4, [.ref a, .int x0], L, r)))))) y pn (nx, fi, fl, fr) Q = _
  rw [z_le4_ble hr, h, show Nat.ble 2 (.int x0 :: .ref a :: r).length = true from by simp]; rfl
theorem zr_iv_5 {x0 : Int32} {x1 : Int32} (hr : z_le4 r = true) : TR (z_st (.invokestatic 5) n pc L (.int x1 :: .int x0 :: r) (nx, fi, fl, fr)) y pn (nx, fi, fl, fr) Q = TT 5 0 [some (.int x0), some (.int x1)] [] (nx, fi, fl, fr) (fun v M1 => TT y pn L (v.toList ++ r) M1 Q) := by
  show TR (z_if (Nat.ble 2 (.int x1 :: .int x0 :: r).length && Nat.ble r.length 4) (z_if (Nat.ble (z_wd [.int x0, .int x1]) (z_ml 5)) (some (.inr (.inr (5, [.int x0, .int x1], L, r)))))) y pn (nx, fi, fl, fr) Q = _
  rw [z_le4_ble hr, show Nat.ble 2 (.int x1 :: .int x0 :: r).length = true from by simp]; rfl
theorem zr_iv_6 {x0 : Int32} {x1 : Int32} (hr : z_le4 r = true) : TR (z_st (.invokestatic 6) n pc L (.int x1 :: .int x0 :: r) (nx, fi, fl, fr)) y pn (nx, fi, fl, fr) Q = TT 6 0 [some (.int x0), some (.int x1)] [] (nx, fi, fl, fr) (fun v M1 => TT y pn L (v.toList ++ r) M1 Q) := by
  show TR (z_if (Nat.ble 2 (.int x1 :: .int x0 :: r).length && Nat.ble r.length 4) (z_if (Nat.ble (z_wd [.int x0, .int x1]) (z_ml 6)) (some (.inr (.inr (6, [.int x0, .int x1], L, r)))))) y pn (nx, fi, fl, fr) Q = _
  rw [z_le4_ble hr, show Nat.ble 2 (.int x1 :: .int x0 :: r).length = true from by simp]; rfl
theorem zr_iv_7 {x0 : Int32} {x1 : Int32} (hr : z_le4 r = true) : TR (z_st (.invokestatic 7) n pc L (.int x1 :: .int x0 :: r) (nx, fi, fl, fr)) y pn (nx, fi, fl, fr) Q = TT 7 0 [some (.int x0), some (.int x1)] [] (nx, fi, fl, fr) (fun v M1 => TT y pn L (v.toList ++ r) M1 Q) := by
  show TR (z_if (Nat.ble 2 (.int x1 :: .int x0 :: r).length && Nat.ble r.length 4) (z_if (Nat.ble (z_wd [.int x0, .int x1]) (z_ml 7)) (some (.inr (.inr (7, [.int x0, .int x1], L, r)))))) y pn (nx, fi, fl, fr) Q = _
  rw [z_le4_ble hr, show Nat.ble 2 (.int x1 :: .int x0 :: r).length = true from by simp]; rfl
theorem zr_iv_8 {x0 : Int32} (hr : z_le4 r = true) : TR (z_st (.invokestatic 8) n pc L (.int x0 :: r) (nx, fi, fl, fr)) y pn (nx, fi, fl, fr) Q = TT 8 0 [some (.int x0)] [] (nx, fi, fl, fr) (fun v M1 => TT y pn L (v.toList ++ r) M1 Q) := by
  show TR (z_if (Nat.ble 1 (.int x0 :: r).length && Nat.ble r.length 4) (z_if (Nat.ble (z_wd [.int x0]) (z_ml 8)) (some (.inr (.inr (8, [.int x0], L, r)))))) y pn (nx, fi, fl, fr) Q = _
  rw [z_le4_ble hr, show Nat.ble 1 (.int x0 :: r).length = true from by simp]; rfl
theorem zr_iv_9 {x0 : Int32} {x1 : Int32} (h : z_ok nx a 20 = true) (hr : z_le4 r = true) : TR (z_st (.invokevirtual 9) n pc L (.int x1 :: .int x0 :: .ref a :: r) (nx, fi, fl, fr)) y pn (nx, fi, fl, fr) Q = TT 9 0 [some (.ref a), some (.int x0), some (.int x1), none] [] (nx, fi, fl, fr) (fun v M1 => TT y pn L (v.toList ++ r) M1 Q) := by
  show TR (z_if (Nat.ble 3 (.int x1 :: .int x0 :: .ref a :: r).length && Nat.ble r.length 4) (z_if (Nat.ble (z_wd [.ref a, .int x0, .int x1]) (z_ml 9) && z_ok nx a 20) (some (.inr (.inr (9, [.ref a, .int x0, .int x1], L, r)))))) y pn (nx, fi, fl, fr) Q = _
  rw [z_le4_ble hr, h, show Nat.ble 3 (.int x1 :: .int x0 :: .ref a :: r).length = true from by simp]; rfl
theorem zr_iv_10 {x0 : Int32} (h : z_ok nx a 20 = true) (hr : z_le4 r = true) : TR (z_st (.invokevirtual 10) n pc L (.int x0 :: .ref a :: r) (nx, fi, fl, fr)) y pn (nx, fi, fl, fr) Q = TT 10 0 [some (.ref a), some (.int x0), none] [] (nx, fi, fl, fr) (fun v M1 => TT y pn L (v.toList ++ r) M1 Q) := by
  show TR (z_if (Nat.ble 2 (.int x0 :: .ref a :: r).length && Nat.ble r.length 4) (z_if (Nat.ble (z_wd [.ref a, .int x0]) (z_ml 10) && z_ok nx a 20) (some (.inr (.inr (10, [.ref a, .int x0], L, r)))))) y pn (nx, fi, fl, fr) Q = _
  rw [z_le4_ble hr, h, show Nat.ble 2 (.int x0 :: .ref a :: r).length = true from by simp]; rfl
theorem zr_iv_11 {x0 : Int32} {x1 : Int32} {x2 : Int32} (h : z_ok nx a 20 = true) (hr : z_le4 r = true) : TR (z_st (.invokevirtual 11) n pc L (.int x2 :: .int x1 :: .int x0 :: .ref a :: r) (nx, fi, fl, fr)) y pn (nx, fi, fl, fr) Q = TT 11 0 [some (.ref a), some (.int x0), some (.int x1), some (.int x2), none] [] (nx, fi, fl, fr) (fun v M1 => TT y pn L (v.toList ++ r) M1 Q) := by
  show TR (z_if (Nat.ble 4 (.int x2 :: .int x1 :: .int x0 :: .ref a :: r).length && Nat.ble r.length 4) (z_if (Nat.ble (z_wd [.ref a, .int x0, .int x1, .int x2]) (z_ml 11) && z_ok nx a 20) (some (.inr (.inr (11, [.ref a, .int x0, .int x1, .int x2], L, r)))))) y pn (nx, fi, fl, fr) Q = _
  rw [z_le4_ble hr, h, show Nat.ble 4 (.int x2 :: .int x1 :: .int x0 :: .ref a :: r).length = true from by simp]; rfl
theorem zr_iv_12 {x0 : Int32} (h : z_ok nx a 20 = true) (hr : z_le4 r = true) : TR (z_st (.invokevirtual 12) n pc L (.int x0 :: .ref a :: r) (nx, fi, fl, fr)) y pn (nx, fi, fl, fr) Q = TT 12 0 [some (.ref a), some (.int x0), none] [] (nx, fi, fl, fr) (fun v M1 => TT y pn L (v.toList ++ r) M1 Q) := by
  show TR (z_if (Nat.ble 2 (.int x0 :: .ref a :: r).length && Nat.ble r.length 4) (z_if (Nat.ble (z_wd [.ref a, .int x0]) (z_ml 12) && z_ok nx a 20) (some (.inr (.inr (12, [.ref a, .int x0], L, r)))))) y pn (nx, fi, fl, fr) Q = _
  rw [z_le4_ble hr, h, show Nat.ble 2 (.int x0 :: .ref a :: r).length = true from by simp]; rfl
theorem zr_iv_13 {x0 : Int32} {x1 : Int32} {x2 : Int32} {x3 : Int32} {x4 : Int32} {x5 : Int32} (h : z_ok nx a 20 = true) (hr : z_le4 r = true) : TR (z_st (.invokevirtual 13) n pc L (.int x5 :: .int x4 :: .int x3 :: .int x2 :: .int x1 :: .int x0 :: .ref a :: r) (nx, fi, fl, fr)) y pn (nx, fi, fl, fr) Q = TT 13 0 [some (.ref a), some (.int x0), some (.int x1), some (.int x2), some (.int x3), some (.int x4), some (.int x5), none, none, none] [] (nx, fi, fl, fr) (fun v M1 => TT y pn L (v.toList ++ r) M1 Q) := by
  show TR (z_if (Nat.ble 7 (.int x5 :: .int x4 :: .int x3 :: .int x2 :: .int x1 :: .int x0 :: .ref a :: r).length && Nat.ble r.length 4) (z_if (Nat.ble (z_wd [.ref a, .int x0, .int x1, .int x2, .int x3, .int x4, .int x5]) (z_ml 13) && z_ok nx a 20) (some (.inr (.inr (13, [.ref a, .int x0, .int x1, .int x2, .int x3, .int x4, .int x5], L, r)))))) y pn (nx, fi, fl, fr) Q = _
  rw [z_le4_ble hr, h, show Nat.ble 7 (.int x5 :: .int x4 :: .int x3 :: .int x2 :: .int x1 :: .int x0 :: .ref a :: r).length = true from by simp]; rfl
theorem zr_iv_14 {x0 : Int32} {x1 : Int32} (h : z_ok nx a 20 = true) (hr : z_le4 r = true) : TR (z_st (.invokevirtual 14) n pc L (.int x1 :: .int x0 :: .ref a :: r) (nx, fi, fl, fr)) y pn (nx, fi, fl, fr) Q = TT 14 0 [some (.ref a), some (.int x0), some (.int x1), none] [] (nx, fi, fl, fr) (fun v M1 => TT y pn L (v.toList ++ r) M1 Q) := by
  show TR (z_if (Nat.ble 3 (.int x1 :: .int x0 :: .ref a :: r).length && Nat.ble r.length 4) (z_if (Nat.ble (z_wd [.ref a, .int x0, .int x1]) (z_ml 14) && z_ok nx a 20) (some (.inr (.inr (14, [.ref a, .int x0, .int x1], L, r)))))) y pn (nx, fi, fl, fr) Q = _
  rw [z_le4_ble hr, h, show Nat.ble 3 (.int x1 :: .int x0 :: .ref a :: r).length = true from by simp]; rfl
theorem zr_iv_15 {x0 : Int32} {x1 : Int32} (h : z_ok nx a 20 = true) (hr : z_le4 r = true) : TR (z_st (.invokevirtual 15) n pc L (.int x1 :: .int x0 :: .ref a :: r) (nx, fi, fl, fr)) y pn (nx, fi, fl, fr) Q = TT 15 0 [some (.ref a), some (.int x0), some (.int x1), none] [] (nx, fi, fl, fr) (fun v M1 => TT y pn L (v.toList ++ r) M1 Q) := by
  show TR (z_if (Nat.ble 3 (.int x1 :: .int x0 :: .ref a :: r).length && Nat.ble r.length 4) (z_if (Nat.ble (z_wd [.ref a, .int x0, .int x1]) (z_ml 15) && z_ok nx a 20) (some (.inr (.inr (15, [.ref a, .int x0, .int x1], L, r)))))) y pn (nx, fi, fl, fr) Q = _
  rw [z_le4_ble hr, h, show Nat.ble 3 (.int x1 :: .int x0 :: .ref a :: r).length = true from by simp]; rfl
theorem zr_iv_16 {x0 : Int32} {x1 : Int32} (h : z_ok nx a 20 = true) (hr : z_le4 r = true) : TR (z_st (.invokevirtual 16) n pc L (.int x1 :: .int x0 :: .ref a :: r) (nx, fi, fl, fr)) y pn (nx, fi, fl, fr) Q = TT 16 0 [some (.ref a), some (.int x0), some (.int x1)] [] (nx, fi, fl, fr) (fun v M1 => TT y pn L (v.toList ++ r) M1 Q) := by
  show TR (z_if (Nat.ble 3 (.int x1 :: .int x0 :: .ref a :: r).length && Nat.ble r.length 4) (z_if (Nat.ble (z_wd [.ref a, .int x0, .int x1]) (z_ml 16) && z_ok nx a 20) (some (.inr (.inr (16, [.ref a, .int x0, .int x1], L, r)))))) y pn (nx, fi, fl, fr) Q = _
  rw [z_le4_ble hr, h, show Nat.ble 3 (.int x1 :: .int x0 :: .ref a :: r).length = true from by simp]; rfl
theorem zr_iv_17  (h : z_ok nx a 20 = true) (hr : z_le4 r = true) : TR (z_st (.invokevirtual 17) n pc L (.ref a :: r) (nx, fi, fl, fr)) y pn (nx, fi, fl, fr) Q = TT 17 0 [some (.ref a)] [] (nx, fi, fl, fr) (fun v M1 => TT y pn L (v.toList ++ r) M1 Q) := by
  show TR (z_if (Nat.ble 1 (.ref a :: r).length && Nat.ble r.length 4) (z_if (Nat.ble (z_wd [.ref a]) (z_ml 17) && z_ok nx a 20) (some (.inr (.inr (17, [.ref a], L, r)))))) y pn (nx, fi, fl, fr) Q = _
  rw [z_le4_ble hr, h, show Nat.ble 1 (.ref a :: r).length = true from by simp]; rfl
theorem zr_iv_18 {x0 : Int32} {x1 : Int32} {x2 : Int32} {x3 : Int32} {x4 : Int32} (h : z_ok nx a 20 = true) (hr : z_le4 r = true) : TR (z_st (.invokevirtual 18) n pc L (.int x4 :: .int x3 :: .int x2 :: .int x1 :: .int x0 :: .ref a :: r) (nx, fi, fl, fr)) y pn (nx, fi, fl, fr) Q = TT 18 0 [some (.ref a), some (.int x0), some (.int x1), some (.int x2), some (.int x3), some (.int x4)] [] (nx, fi, fl, fr) (fun v M1 => TT y pn L (v.toList ++ r) M1 Q) := by
  show TR (z_if (Nat.ble 6 (.int x4 :: .int x3 :: .int x2 :: .int x1 :: .int x0 :: .ref a :: r).length && Nat.ble r.length 4) (z_if (Nat.ble (z_wd [.ref a, .int x0, .int x1, .int x2, .int x3, .int x4]) (z_ml 18) && z_ok nx a 20) (some (.inr (.inr (18, [.ref a, .int x0, .int x1, .int x2, .int x3, .int x4], L, r)))))) y pn (nx, fi, fl, fr) Q = _
  rw [z_le4_ble hr, h, show Nat.ble 6 (.int x4 :: .int x3 :: .int x2 :: .int x1 :: .int x0 :: .ref a :: r).length = true from by simp]; rfl
theorem zr_iv_19 {x0 : Int32} (h : z_ok nx a 20 = true) (hr : z_le4 r = true) : TR (z_st (.invokevirtual 19) n pc L (.int x0 :: .ref a :: r) (nx, fi, fl, fr)) y pn (nx, fi, fl, fr) Q = TT 19 0 [some (.ref a), some (.int x0)] [] (nx, fi, fl, fr) (fun v M1 => TT y pn L (v.toList ++ r) M1 Q) := by
  show TR (z_if (Nat.ble 2 (.int x0 :: .ref a :: r).length && Nat.ble r.length 4) (z_if (Nat.ble (z_wd [.ref a, .int x0]) (z_ml 19) && z_ok nx a 20) (some (.inr (.inr (19, [.ref a, .int x0], L, r)))))) y pn (nx, fi, fl, fr) Q = _
  rw [z_le4_ble hr, h, show Nat.ble 2 (.int x0 :: .ref a :: r).length = true from by simp]; rfl
theorem zr_iv_20 {x0 : Int32} (h : z_ok nx a 20 = true) (hr : z_le4 r = true) : TR (z_st (.invokevirtual 20) n pc L (.int x0 :: .ref a :: r) (nx, fi, fl, fr)) y pn (nx, fi, fl, fr) Q = TT 20 0 [some (.ref a), some (.int x0)] [] (nx, fi, fl, fr) (fun v M1 => TT y pn L (v.toList ++ r) M1 Q) := by
  show TR (z_if (Nat.ble 2 (.int x0 :: .ref a :: r).length && Nat.ble r.length 4) (z_if (Nat.ble (z_wd [.ref a, .int x0]) (z_ml 20) && z_ok nx a 20) (some (.inr (.inr (20, [.ref a, .int x0], L, r)))))) y pn (nx, fi, fl, fr) Q = _
  rw [z_le4_ble hr, h, show Nat.ble 2 (.int x0 :: .ref a :: r).length = true from by simp]; rfl
theorem zr_iv_21 {x0 : Int32} (h : z_ok nx a 20 = true) (hr : z_le4 r = true) : TR (z_st (.invokevirtual 21) n pc L (.int x0 :: .ref a :: r) (nx, fi, fl, fr)) y pn (nx, fi, fl, fr) Q = TT 21 0 [some (.ref a), some (.int x0)] [] (nx, fi, fl, fr) (fun v M1 => TT y pn L (v.toList ++ r) M1 Q) := by
  show TR (z_if (Nat.ble 2 (.int x0 :: .ref a :: r).length && Nat.ble r.length 4) (z_if (Nat.ble (z_wd [.ref a, .int x0]) (z_ml 21) && z_ok nx a 20) (some (.inr (.inr (21, [.ref a, .int x0], L, r)))))) y pn (nx, fi, fl, fr) Q = _
  rw [z_le4_ble hr, h, show Nat.ble 2 (.int x0 :: .ref a :: r).length = true from by simp]; rfl
theorem zr_iv_22 {x0 : Int32} (h : z_ok nx a 20 = true) (hr : z_le4 r = true) : TR (z_st (.invokevirtual 22) n pc L (.int x0 :: .ref a :: r) (nx, fi, fl, fr)) y pn (nx, fi, fl, fr) Q = TT 22 0 [some (.ref a), some (.int x0)] [] (nx, fi, fl, fr) (fun v M1 => TT y pn L (v.toList ++ r) M1 Q) := by
  show TR (z_if (Nat.ble 2 (.int x0 :: .ref a :: r).length && Nat.ble r.length 4) (z_if (Nat.ble (z_wd [.ref a, .int x0]) (z_ml 22) && z_ok nx a 20) (some (.inr (.inr (22, [.ref a, .int x0], L, r)))))) y pn (nx, fi, fl, fr) Q = _
  rw [z_le4_ble hr, h, show Nat.ble 2 (.int x0 :: .ref a :: r).length = true from by simp]; rfl
theorem zr_iv_23 {x0 : Int32} {x1 : Int32} (hr : z_le4 r = true) : TR (z_st (.invokestatic 23) n pc L (.int x1 :: .int x0 :: r) (nx, fi, fl, fr)) y pn (nx, fi, fl, fr) Q = TT 23 0 [some (.int x0), some (.int x1)] [] (nx, fi, fl, fr) (fun v M1 => TT y pn L (v.toList ++ r) M1 Q) := by
  show TR (z_if (Nat.ble 2 (.int x1 :: .int x0 :: r).length && Nat.ble r.length 4) (z_if (Nat.ble (z_wd [.int x0, .int x1]) (z_ml 23)) (some (.inr (.inr (23, [.int x0, .int x1], L, r)))))) y pn (nx, fi, fl, fr) Q = _
  rw [z_le4_ble hr, show Nat.ble 2 (.int x1 :: .int x0 :: r).length = true from by simp]; rfl
theorem zr_iv_24 {x0 : Int32} (h : z_ok nx a 20 = true) (hr : z_le4 r = true) : TR (z_st (.invokevirtual 24) n pc L (.int x0 :: .ref a :: r) (nx, fi, fl, fr)) y pn (nx, fi, fl, fr) Q = TT 24 0 [some (.ref a), some (.int x0)] [] (nx, fi, fl, fr) (fun v M1 => TT y pn L (v.toList ++ r) M1 Q) := by
  show TR (z_if (Nat.ble 2 (.int x0 :: .ref a :: r).length && Nat.ble r.length 4) (z_if (Nat.ble (z_wd [.ref a, .int x0]) (z_ml 24) && z_ok nx a 20) (some (.inr (.inr (24, [.ref a, .int x0], L, r)))))) y pn (nx, fi, fl, fr) Q = _
  rw [z_le4_ble hr, h, show Nat.ble 2 (.int x0 :: .ref a :: r).length = true from by simp]; rfl
theorem zr_iv_25 {x0 : Int32} {x1 : Int32} (h : z_ok nx a 20 = true) (hr : z_le4 r = true) : TR (z_st (.invokevirtual 25) n pc L (.int x1 :: .int x0 :: .ref a :: r) (nx, fi, fl, fr)) y pn (nx, fi, fl, fr) Q = TT 25 0 [some (.ref a), some (.int x0), some (.int x1), none] [] (nx, fi, fl, fr) (fun v M1 => TT y pn L (v.toList ++ r) M1 Q) := by
  show TR (z_if (Nat.ble 3 (.int x1 :: .int x0 :: .ref a :: r).length && Nat.ble r.length 4) (z_if (Nat.ble (z_wd [.ref a, .int x0, .int x1]) (z_ml 25) && z_ok nx a 20) (some (.inr (.inr (25, [.ref a, .int x0, .int x1], L, r)))))) y pn (nx, fi, fl, fr) Q = _
  rw [z_le4_ble hr, h, show Nat.ble 3 (.int x1 :: .int x0 :: .ref a :: r).length = true from by simp]; rfl
theorem zr_iv_26 {x0 : Int64} {x1 : Int32} (h : z_ok nx a 20 = true) (hr : z_le4 r = true) : TR (z_st (.invokevirtual 26) n pc L (.int x1 :: .long x0 :: .ref a :: r) (nx, fi, fl, fr)) y pn (nx, fi, fl, fr) Q = TT 26 0 [some (.ref a), some (.long x0), none, some (.int x1), none] [] (nx, fi, fl, fr) (fun v M1 => TT y pn L (v.toList ++ r) M1 Q) := by
  show TR (z_if (Nat.ble 3 (.int x1 :: .long x0 :: .ref a :: r).length && Nat.ble r.length 4) (z_if (Nat.ble (z_wd [.ref a, .long x0, .int x1]) (z_ml 26) && z_ok nx a 20) (some (.inr (.inr (26, [.ref a, .long x0, .int x1], L, r)))))) y pn (nx, fi, fl, fr) Q = _
  rw [z_le4_ble hr, h, show Nat.ble 3 (.int x1 :: .long x0 :: .ref a :: r).length = true from by simp]; rfl
theorem zr_iv_27  (h : z_ok nx a 20 = true) (hr : z_le4 r = true) : TR (z_st (.invokevirtual 27) n pc L (.ref a :: r) (nx, fi, fl, fr)) y pn (nx, fi, fl, fr) Q = TT 27 0 [some (.ref a), none] [] (nx, fi, fl, fr) (fun v M1 => TT y pn L (v.toList ++ r) M1 Q) := by
  show TR (z_if (Nat.ble 1 (.ref a :: r).length && Nat.ble r.length 4) (z_if (Nat.ble (z_wd [.ref a]) (z_ml 27) && z_ok nx a 20) (some (.inr (.inr (27, [.ref a], L, r)))))) y pn (nx, fi, fl, fr) Q = _
  rw [z_le4_ble hr, h, show Nat.ble 1 (.ref a :: r).length = true from by simp]; rfl
theorem zr_iv_28  (h : z_ok nx a 20 = true) (hr : z_le4 r = true) : TR (z_st (.invokevirtual 28) n pc L (.ref a :: r) (nx, fi, fl, fr)) y pn (nx, fi, fl, fr) Q = TT 28 0 [some (.ref a)] [] (nx, fi, fl, fr) (fun v M1 => TT y pn L (v.toList ++ r) M1 Q) := by
  show TR (z_if (Nat.ble 1 (.ref a :: r).length && Nat.ble r.length 4) (z_if (Nat.ble (z_wd [.ref a]) (z_ml 28) && z_ok nx a 20) (some (.inr (.inr (28, [.ref a], L, r)))))) y pn (nx, fi, fl, fr) Q = _
  rw [z_le4_ble hr, h, show Nat.ble 1 (.ref a :: r).length = true from by simp]; rfl
theorem zr_iv_29 {x0 : Int64} (hr : z_le4 r = true) : TR (z_st (.invokestatic 29) n pc L (.long x0 :: r) (nx, fi, fl, fr)) y pn (nx, fi, fl, fr) Q = TT 29 0 [some (.long x0), none] [] (nx, fi, fl, fr) (fun v M1 => TT y pn L (v.toList ++ r) M1 Q) := by
  show TR (z_if (Nat.ble 1 (.long x0 :: r).length && Nat.ble r.length 4) (z_if (Nat.ble (z_wd [.long x0]) (z_ml 29)) (some (.inr (.inr (29, [.long x0], L, r)))))) y pn (nx, fi, fl, fr) Q = _
  rw [z_le4_ble hr, show Nat.ble 1 (.long x0 :: r).length = true from by simp]; rfl
theorem zr_iv_30 {x0 : Int32} (hr : z_le4 r = true) : TR (z_st (.invokestatic 30) n pc L (.int x0 :: r) (nx, fi, fl, fr)) y pn (nx, fi, fl, fr) Q = TT 30 0 [some (.int x0)] [] (nx, fi, fl, fr) (fun v M1 => TT y pn L (v.toList ++ r) M1 Q) := by
  show TR (z_if (Nat.ble 1 (.int x0 :: r).length && Nat.ble r.length 4) (z_if (Nat.ble (z_wd [.int x0]) (z_ml 30)) (some (.inr (.inr (30, [.int x0], L, r)))))) y pn (nx, fi, fl, fr) Q = _
  rw [z_le4_ble hr, show Nat.ble 1 (.int x0 :: r).length = true from by simp]; rfl
theorem zr_iv_31  (h : z_ok nx a 20 = true) (hr : z_le4 r = true) : TR (z_st (.invokevirtual 31) n pc L (.ref a :: r) (nx, fi, fl, fr)) y pn (nx, fi, fl, fr) Q = TT 31 0 [some (.ref a), none, none, none, none] [] (nx, fi, fl, fr) (fun v M1 => TT y pn L (v.toList ++ r) M1 Q) := by
  show TR (z_if (Nat.ble 1 (.ref a :: r).length && Nat.ble r.length 4) (z_if (Nat.ble (z_wd [.ref a]) (z_ml 31) && z_ok nx a 20) (some (.inr (.inr (31, [.ref a], L, r)))))) y pn (nx, fi, fl, fr) Q = _
  rw [z_le4_ble hr, h, show Nat.ble 1 (.ref a :: r).length = true from by simp]; rfl
theorem zr_iv_32  (h : z_ok nx a 20 = true) (hr : z_le4 r = true) : TR (z_st (.invokevirtual 32) n pc L (.ref a :: r) (nx, fi, fl, fr)) y pn (nx, fi, fl, fr) Q = TT 32 0 [some (.ref a), none, none] [] (nx, fi, fl, fr) (fun v M1 => TT y pn L (v.toList ++ r) M1 Q) := by
  show TR (z_if (Nat.ble 1 (.ref a :: r).length && Nat.ble r.length 4) (z_if (Nat.ble (z_wd [.ref a]) (z_ml 32) && z_ok nx a 20) (some (.inr (.inr (32, [.ref a], L, r)))))) y pn (nx, fi, fl, fr) Q = _
  rw [z_le4_ble hr, h, show Nat.ble 1 (.ref a :: r).length = true from by simp]; rfl
theorem zr_iv_33  (h : z_ok nx a 20 = true) (hr : z_le4 r = true) : TR (z_st (.invokevirtual 33) n pc L (.ref a :: r) (nx, fi, fl, fr)) y pn (nx, fi, fl, fr) Q = TT 33 0 [some (.ref a), none, none] [] (nx, fi, fl, fr) (fun v M1 => TT y pn L (v.toList ++ r) M1 Q) := by
  show TR (z_if (Nat.ble 1 (.ref a :: r).length && Nat.ble r.length 4) (z_if (Nat.ble (z_wd [.ref a]) (z_ml 33) && z_ok nx a 20) (some (.inr (.inr (33, [.ref a], L, r)))))) y pn (nx, fi, fl, fr) Q = _
  rw [z_le4_ble hr, h, show Nat.ble 1 (.ref a :: r).length = true from by simp]; rfl
theorem zr_iv_34 {x0 : Int32} (h : z_ok nx a 20 = true) (hr : z_le4 r = true) : TR (z_st (.invokevirtual 34) n pc L (.int x0 :: .ref a :: r) (nx, fi, fl, fr)) y pn (nx, fi, fl, fr) Q = TT 34 0 [some (.ref a), some (.int x0), none, none] [] (nx, fi, fl, fr) (fun v M1 => TT y pn L (v.toList ++ r) M1 Q) := by
  show TR (z_if (Nat.ble 2 (.int x0 :: .ref a :: r).length && Nat.ble r.length 4) (z_if (Nat.ble (z_wd [.ref a, .int x0]) (z_ml 34) && z_ok nx a 20) (some (.inr (.inr (34, [.ref a, .int x0], L, r)))))) y pn (nx, fi, fl, fr) Q = _
  rw [z_le4_ble hr, h, show Nat.ble 2 (.int x0 :: .ref a :: r).length = true from by simp]; rfl
theorem zr_iv_35  (h : z_ok nx a 20 = true) (hr : z_le4 r = true) : TR (z_st (.invokevirtual 35) n pc L (.ref a :: r) (nx, fi, fl, fr)) y pn (nx, fi, fl, fr) Q = TT 35 0 [some (.ref a), none] [] (nx, fi, fl, fr) (fun v M1 => TT y pn L (v.toList ++ r) M1 Q) := by
  show TR (z_if (Nat.ble 1 (.ref a :: r).length && Nat.ble r.length 4) (z_if (Nat.ble (z_wd [.ref a]) (z_ml 35) && z_ok nx a 20) (some (.inr (.inr (35, [.ref a], L, r)))))) y pn (nx, fi, fl, fr) Q = _
  rw [z_le4_ble hr, h, show Nat.ble 1 (.ref a :: r).length = true from by simp]; rfl
theorem zr_iv_36 {x0 : Int32} (h : z_ok nx a 20 = true) (hr : z_le4 r = true) : TR (z_st (.invokevirtual 36) n pc L (.int x0 :: .ref a :: r) (nx, fi, fl, fr)) y pn (nx, fi, fl, fr) Q = TT 36 0 [some (.ref a), some (.int x0), none] [] (nx, fi, fl, fr) (fun v M1 => TT y pn L (v.toList ++ r) M1 Q) := by
  show TR (z_if (Nat.ble 2 (.int x0 :: .ref a :: r).length && Nat.ble r.length 4) (z_if (Nat.ble (z_wd [.ref a, .int x0]) (z_ml 36) && z_ok nx a 20) (some (.inr (.inr (36, [.ref a, .int x0], L, r)))))) y pn (nx, fi, fl, fr) Q = _
  rw [z_le4_ble hr, h, show Nat.ble 2 (.int x0 :: .ref a :: r).length = true from by simp]; rfl
theorem zr_iv_37 {x0 : Int32} {x1 : Int32} (h : z_ok nx a 20 = true) (hr : z_le4 r = true) : TR (z_st (.invokevirtual 37) n pc L (.int x1 :: .int x0 :: .ref a :: r) (nx, fi, fl, fr)) y pn (nx, fi, fl, fr) Q = TT 37 0 [some (.ref a), some (.int x0), some (.int x1), none] [] (nx, fi, fl, fr) (fun v M1 => TT y pn L (v.toList ++ r) M1 Q) := by
  show TR (z_if (Nat.ble 3 (.int x1 :: .int x0 :: .ref a :: r).length && Nat.ble r.length 4) (z_if (Nat.ble (z_wd [.ref a, .int x0, .int x1]) (z_ml 37) && z_ok nx a 20) (some (.inr (.inr (37, [.ref a, .int x0, .int x1], L, r)))))) y pn (nx, fi, fl, fr) Q = _
  rw [z_le4_ble hr, h, show Nat.ble 3 (.int x1 :: .int x0 :: .ref a :: r).length = true from by simp]; rfl
theorem zr_iv_38 {x0 : Int32} {x1 : Int32} {x2 : Int32} {x3 : Int32} {x4 : Int32} {x5 : Int32} {x6 : Int32} {x7 : Int32} {x8 : Int32} (hr : z_le4 r = true) : TR (z_st (.invokestatic 38) n pc L (.int x8 :: .int x7 :: .int x6 :: .int x5 :: .int x4 :: .int x3 :: .int x2 :: .int x1 :: .int x0 :: r) (nx, fi, fl, fr)) y pn (nx, fi, fl, fr) Q = TT 38 0 [some (.int x0), some (.int x1), some (.int x2), some (.int x3), some (.int x4), some (.int x5), some (.int x6), some (.int x7), some (.int x8), none, none] [] (nx, fi, fl, fr) (fun v M1 => TT y pn L (v.toList ++ r) M1 Q) := by
  show TR (z_if (Nat.ble 9 (.int x8 :: .int x7 :: .int x6 :: .int x5 :: .int x4 :: .int x3 :: .int x2 :: .int x1 :: .int x0 :: r).length && Nat.ble r.length 4) (z_if (Nat.ble (z_wd [.int x0, .int x1, .int x2, .int x3, .int x4, .int x5, .int x6, .int x7, .int x8]) (z_ml 38)) (some (.inr (.inr (38, [.int x0, .int x1, .int x2, .int x3, .int x4, .int x5, .int x6, .int x7, .int x8], L, r)))))) y pn (nx, fi, fl, fr) Q = _
  rw [z_le4_ble hr, show Nat.ble 9 (.int x8 :: .int x7 :: .int x6 :: .int x5 :: .int x4 :: .int x3 :: .int x2 :: .int x1 :: .int x0 :: r).length = true from by simp]; rfl
theorem zr_iv_39 {x0 : Int32} (h : z_ok nx a 20 = true) (hr : z_le4 r = true) : TR (z_st (.invokevirtual 39) n pc L (.int x0 :: .ref a :: r) (nx, fi, fl, fr)) y pn (nx, fi, fl, fr) Q = TT 39 0 [some (.ref a), some (.int x0), none, none] [] (nx, fi, fl, fr) (fun v M1 => TT y pn L (v.toList ++ r) M1 Q) := by
  show TR (z_if (Nat.ble 2 (.int x0 :: .ref a :: r).length && Nat.ble r.length 4) (z_if (Nat.ble (z_wd [.ref a, .int x0]) (z_ml 39) && z_ok nx a 20) (some (.inr (.inr (39, [.ref a, .int x0], L, r)))))) y pn (nx, fi, fl, fr) Q = _
  rw [z_le4_ble hr, h, show Nat.ble 2 (.int x0 :: .ref a :: r).length = true from by simp]; rfl
theorem zr_iv_40 {x0 : Int32} {x1 : Int32} (h : z_ok nx a 20 = true) (hr : z_le4 r = true) : TR (z_st (.invokevirtual 40) n pc L (.int x1 :: .int x0 :: .ref a :: r) (nx, fi, fl, fr)) y pn (nx, fi, fl, fr) Q = TT 40 0 [some (.ref a), some (.int x0), some (.int x1), none, none] [] (nx, fi, fl, fr) (fun v M1 => TT y pn L (v.toList ++ r) M1 Q) := by
  show TR (z_if (Nat.ble 3 (.int x1 :: .int x0 :: .ref a :: r).length && Nat.ble r.length 4) (z_if (Nat.ble (z_wd [.ref a, .int x0, .int x1]) (z_ml 40) && z_ok nx a 20) (some (.inr (.inr (40, [.ref a, .int x0, .int x1], L, r)))))) y pn (nx, fi, fl, fr) Q = _
  rw [z_le4_ble hr, h, show Nat.ble 3 (.int x1 :: .int x0 :: .ref a :: r).length = true from by simp]; rfl
theorem zr_iv_41 {x0 : Int32} {x1 : Int32} (h : z_ok nx a 20 = true) (hr : z_le4 r = true) : TR (z_st (.invokevirtual 41) n pc L (.int x1 :: .int x0 :: .ref a :: r) (nx, fi, fl, fr)) y pn (nx, fi, fl, fr) Q = TT 41 0 [some (.ref a), some (.int x0), some (.int x1), none, none, none, none, none, none, none] [] (nx, fi, fl, fr) (fun v M1 => TT y pn L (v.toList ++ r) M1 Q) := by
  show TR (z_if (Nat.ble 3 (.int x1 :: .int x0 :: .ref a :: r).length && Nat.ble r.length 4) (z_if (Nat.ble (z_wd [.ref a, .int x0, .int x1]) (z_ml 41) && z_ok nx a 20) (some (.inr (.inr (41, [.ref a, .int x0, .int x1], L, r)))))) y pn (nx, fi, fl, fr) Q = _
  rw [z_le4_ble hr, h, show Nat.ble 3 (.int x1 :: .int x0 :: .ref a :: r).length = true from by simp]; rfl
theorem zr_iv_42  (h : z_ok nx a 20 = true) (hr : z_le4 r = true) : TR (z_st (.invokevirtual 42) n pc L (.ref a :: r) (nx, fi, fl, fr)) y pn (nx, fi, fl, fr) Q = TT 42 0 [some (.ref a)] [] (nx, fi, fl, fr) (fun v M1 => TT y pn L (v.toList ++ r) M1 Q) := by
  show TR (z_if (Nat.ble 1 (.ref a :: r).length && Nat.ble r.length 4) (z_if (Nat.ble (z_wd [.ref a]) (z_ml 42) && z_ok nx a 20) (some (.inr (.inr (42, [.ref a], L, r)))))) y pn (nx, fi, fl, fr) Q = _
  rw [z_le4_ble hr, h, show Nat.ble 1 (.ref a :: r).length = true from by simp]; rfl
theorem zr_iv_43 {x0 : Int32} (h : z_ok nx a 20 = true) (hr : z_le4 r = true) : TR (z_st (.invokevirtual 43) n pc L (.int x0 :: .ref a :: r) (nx, fi, fl, fr)) y pn (nx, fi, fl, fr) Q = TT 43 0 [some (.ref a), some (.int x0)] [] (nx, fi, fl, fr) (fun v M1 => TT y pn L (v.toList ++ r) M1 Q) := by
  show TR (z_if (Nat.ble 2 (.int x0 :: .ref a :: r).length && Nat.ble r.length 4) (z_if (Nat.ble (z_wd [.ref a, .int x0]) (z_ml 43) && z_ok nx a 20) (some (.inr (.inr (43, [.ref a, .int x0], L, r)))))) y pn (nx, fi, fl, fr) Q = _
  rw [z_le4_ble hr, h, show Nat.ble 2 (.int x0 :: .ref a :: r).length = true from by simp]; rfl
theorem zr_iv_44 {x0 : Int32} (h : z_ok nx a 20 = true) (hr : z_le4 r = true) : TR (z_st (.invokevirtual 44) n pc L (.int x0 :: .ref a :: r) (nx, fi, fl, fr)) y pn (nx, fi, fl, fr) Q = TT 44 0 [some (.ref a), some (.int x0), none, none] [] (nx, fi, fl, fr) (fun v M1 => TT y pn L (v.toList ++ r) M1 Q) := by
  show TR (z_if (Nat.ble 2 (.int x0 :: .ref a :: r).length && Nat.ble r.length 4) (z_if (Nat.ble (z_wd [.ref a, .int x0]) (z_ml 44) && z_ok nx a 20) (some (.inr (.inr (44, [.ref a, .int x0], L, r)))))) y pn (nx, fi, fl, fr) Q = _
  rw [z_le4_ble hr, h, show Nat.ble 2 (.int x0 :: .ref a :: r).length = true from by simp]; rfl
theorem zr_iv_45 {x0 : Int32} {x1 : Int32} (hr : z_le4 r = true) : TR (z_st (.invokestatic 45) n pc L (.int x1 :: .int x0 :: r) (nx, fi, fl, fr)) y pn (nx, fi, fl, fr) Q = TT 45 0 [some (.int x0), some (.int x1)] [] (nx, fi, fl, fr) (fun v M1 => TT y pn L (v.toList ++ r) M1 Q) := by
  show TR (z_if (Nat.ble 2 (.int x1 :: .int x0 :: r).length && Nat.ble r.length 4) (z_if (Nat.ble (z_wd [.int x0, .int x1]) (z_ml 45)) (some (.inr (.inr (45, [.int x0, .int x1], L, r)))))) y pn (nx, fi, fl, fr) Q = _
  rw [z_le4_ble hr, show Nat.ble 2 (.int x1 :: .int x0 :: r).length = true from by simp]; rfl
theorem zr_iv_46 {x0 : Int32} (h : z_ok nx a 20 = true) (hr : z_le4 r = true) : TR (z_st (.invokevirtual 46) n pc L (.int x0 :: .ref a :: r) (nx, fi, fl, fr)) y pn (nx, fi, fl, fr) Q = TT 46 0 [some (.ref a), some (.int x0), none, none, none, none] [] (nx, fi, fl, fr) (fun v M1 => TT y pn L (v.toList ++ r) M1 Q) := by
  show TR (z_if (Nat.ble 2 (.int x0 :: .ref a :: r).length && Nat.ble r.length 4) (z_if (Nat.ble (z_wd [.ref a, .int x0]) (z_ml 46) && z_ok nx a 20) (some (.inr (.inr (46, [.ref a, .int x0], L, r)))))) y pn (nx, fi, fl, fr) Q = _
  rw [z_le4_ble hr, h, show Nat.ble 2 (.int x0 :: .ref a :: r).length = true from by simp]; rfl
theorem zr_iv_47 {x0 : Int32} (h : z_ok nx a 20 = true) (hr : z_le4 r = true) : TR (z_st (.invokevirtual 47) n pc L (.int x0 :: .ref a :: r) (nx, fi, fl, fr)) y pn (nx, fi, fl, fr) Q = TT 47 0 [some (.ref a), some (.int x0), none, none] [] (nx, fi, fl, fr) (fun v M1 => TT y pn L (v.toList ++ r) M1 Q) := by
  show TR (z_if (Nat.ble 2 (.int x0 :: .ref a :: r).length && Nat.ble r.length 4) (z_if (Nat.ble (z_wd [.ref a, .int x0]) (z_ml 47) && z_ok nx a 20) (some (.inr (.inr (47, [.ref a, .int x0], L, r)))))) y pn (nx, fi, fl, fr) Q = _
  rw [z_le4_ble hr, h, show Nat.ble 2 (.int x0 :: .ref a :: r).length = true from by simp]; rfl
theorem zr_iv_48  (h : z_ok nx a 20 = true) (hr : z_le4 r = true) : TR (z_st (.invokevirtual 48) n pc L (.ref a :: r) (nx, fi, fl, fr)) y pn (nx, fi, fl, fr) Q = TT 48 0 [some (.ref a)] [] (nx, fi, fl, fr) (fun v M1 => TT y pn L (v.toList ++ r) M1 Q) := by
  show TR (z_if (Nat.ble 1 (.ref a :: r).length && Nat.ble r.length 4) (z_if (Nat.ble (z_wd [.ref a]) (z_ml 48) && z_ok nx a 20) (some (.inr (.inr (48, [.ref a], L, r)))))) y pn (nx, fi, fl, fr) Q = _
  rw [z_le4_ble hr, h, show Nat.ble 1 (.ref a :: r).length = true from by simp]; rfl
theorem zr_iv_49  (h : z_ok nx a 20 = true) (hr : z_le4 r = true) : TR (z_st (.invokevirtual 49) n pc L (.ref a :: r) (nx, fi, fl, fr)) y pn (nx, fi, fl, fr) Q = TT 49 0 [some (.ref a)] [] (nx, fi, fl, fr) (fun v M1 => TT y pn L (v.toList ++ r) M1 Q) := by
  show TR (z_if (Nat.ble 1 (.ref a :: r).length && Nat.ble r.length 4) (z_if (Nat.ble (z_wd [.ref a]) (z_ml 49) && z_ok nx a 20) (some (.inr (.inr (49, [.ref a], L, r)))))) y pn (nx, fi, fl, fr) Q = _
  rw [z_le4_ble hr, h, show Nat.ble 1 (.ref a :: r).length = true from by simp]; rfl
theorem zr_iv_50  (h : z_ok nx a 20 = true) (hr : z_le4 r = true) : TR (z_st (.invokevirtual 50) n pc L (.ref a :: r) (nx, fi, fl, fr)) y pn (nx, fi, fl, fr) Q = TT 50 0 [some (.ref a)] [] (nx, fi, fl, fr) (fun v M1 => TT y pn L (v.toList ++ r) M1 Q) := by
  show TR (z_if (Nat.ble 1 (.ref a :: r).length && Nat.ble r.length 4) (z_if (Nat.ble (z_wd [.ref a]) (z_ml 50) && z_ok nx a 20) (some (.inr (.inr (50, [.ref a], L, r)))))) y pn (nx, fi, fl, fr) Q = _
  rw [z_le4_ble hr, h, show Nat.ble 1 (.ref a :: r).length = true from by simp]; rfl
theorem zr_iv_51 {x0 : Int32} (h : z_ok nx a 20 = true) (hr : z_le4 r = true) : TR (z_st (.invokevirtual 51) n pc L (.int x0 :: .ref a :: r) (nx, fi, fl, fr)) y pn (nx, fi, fl, fr) Q = TT 51 0 [some (.ref a), some (.int x0), none] [] (nx, fi, fl, fr) (fun v M1 => TT y pn L (v.toList ++ r) M1 Q) := by
  show TR (z_if (Nat.ble 2 (.int x0 :: .ref a :: r).length && Nat.ble r.length 4) (z_if (Nat.ble (z_wd [.ref a, .int x0]) (z_ml 51) && z_ok nx a 20) (some (.inr (.inr (51, [.ref a, .int x0], L, r)))))) y pn (nx, fi, fl, fr) Q = _
  rw [z_le4_ble hr, h, show Nat.ble 2 (.int x0 :: .ref a :: r).length = true from by simp]; rfl
theorem zr_iv_52 {x0 : Int32} (h : z_ok nx a 20 = true) (hr : z_le4 r = true) : TR (z_st (.invokevirtual 52) n pc L (.int x0 :: .ref a :: r) (nx, fi, fl, fr)) y pn (nx, fi, fl, fr) Q = TT 52 0 [some (.ref a), some (.int x0), none, none, none] [] (nx, fi, fl, fr) (fun v M1 => TT y pn L (v.toList ++ r) M1 Q) := by
  show TR (z_if (Nat.ble 2 (.int x0 :: .ref a :: r).length && Nat.ble r.length 4) (z_if (Nat.ble (z_wd [.ref a, .int x0]) (z_ml 52) && z_ok nx a 20) (some (.inr (.inr (52, [.ref a, .int x0], L, r)))))) y pn (nx, fi, fl, fr) Q = _
  rw [z_le4_ble hr, h, show Nat.ble 2 (.int x0 :: .ref a :: r).length = true from by simp]; rfl
theorem zr_iv_53 {x0 : Int32} (h : z_ok nx a 20 = true) (hr : z_le4 r = true) : TR (z_st (.invokevirtual 53) n pc L (.int x0 :: .ref a :: r) (nx, fi, fl, fr)) y pn (nx, fi, fl, fr) Q = TT 53 0 [some (.ref a), some (.int x0), none, none, none, none, none] [] (nx, fi, fl, fr) (fun v M1 => TT y pn L (v.toList ++ r) M1 Q) := by
  show TR (z_if (Nat.ble 2 (.int x0 :: .ref a :: r).length && Nat.ble r.length 4) (z_if (Nat.ble (z_wd [.ref a, .int x0]) (z_ml 53) && z_ok nx a 20) (some (.inr (.inr (53, [.ref a, .int x0], L, r)))))) y pn (nx, fi, fl, fr) Q = _
  rw [z_le4_ble hr, h, show Nat.ble 2 (.int x0 :: .ref a :: r).length = true from by simp]; rfl
theorem zr_iv_54 {x0 : Int32} {x1 : Int32} (h : z_ok nx a 20 = true) (hr : z_le4 r = true) : TR (z_st (.invokevirtual 54) n pc L (.int x1 :: .int x0 :: .ref a :: r) (nx, fi, fl, fr)) y pn (nx, fi, fl, fr) Q = TT 54 0 [some (.ref a), some (.int x0), some (.int x1), none, none, none] [] (nx, fi, fl, fr) (fun v M1 => TT y pn L (v.toList ++ r) M1 Q) := by
  show TR (z_if (Nat.ble 3 (.int x1 :: .int x0 :: .ref a :: r).length && Nat.ble r.length 4) (z_if (Nat.ble (z_wd [.ref a, .int x0, .int x1]) (z_ml 54) && z_ok nx a 20) (some (.inr (.inr (54, [.ref a, .int x0, .int x1], L, r)))))) y pn (nx, fi, fl, fr) Q = _
  rw [z_le4_ble hr, h, show Nat.ble 3 (.int x1 :: .int x0 :: .ref a :: r).length = true from by simp]; rfl
theorem zr_iv_55 {x0 : Int32} {x1 : Int32} (h : z_ok nx a 20 = true) (hr : z_le4 r = true) : TR (z_st (.invokevirtual 55) n pc L (.int x1 :: .int x0 :: .ref a :: r) (nx, fi, fl, fr)) y pn (nx, fi, fl, fr) Q = TT 55 0 [some (.ref a), some (.int x0), some (.int x1), none, none, none, none, none] [] (nx, fi, fl, fr) (fun v M1 => TT y pn L (v.toList ++ r) M1 Q) := by
  show TR (z_if (Nat.ble 3 (.int x1 :: .int x0 :: .ref a :: r).length && Nat.ble r.length 4) (z_if (Nat.ble (z_wd [.ref a, .int x0, .int x1]) (z_ml 55) && z_ok nx a 20) (some (.inr (.inr (55, [.ref a, .int x0, .int x1], L, r)))))) y pn (nx, fi, fl, fr) Q = _
  rw [z_le4_ble hr, h, show Nat.ble 3 (.int x1 :: .int x0 :: .ref a :: r).length = true from by simp]; rfl
theorem zr_iv_56 {x0 : Int32} {x1 : Int32} (h : z_ok nx a 20 = true) (hr : z_le4 r = true) : TR (z_st (.invokevirtual 56) n pc L (.int x1 :: .int x0 :: .ref a :: r) (nx, fi, fl, fr)) y pn (nx, fi, fl, fr) Q = TT 56 0 [some (.ref a), some (.int x0), some (.int x1), none, none] [] (nx, fi, fl, fr) (fun v M1 => TT y pn L (v.toList ++ r) M1 Q) := by
  show TR (z_if (Nat.ble 3 (.int x1 :: .int x0 :: .ref a :: r).length && Nat.ble r.length 4) (z_if (Nat.ble (z_wd [.ref a, .int x0, .int x1]) (z_ml 56) && z_ok nx a 20) (some (.inr (.inr (56, [.ref a, .int x0, .int x1], L, r)))))) y pn (nx, fi, fl, fr) Q = _
  rw [z_le4_ble hr, h, show Nat.ble 3 (.int x1 :: .int x0 :: .ref a :: r).length = true from by simp]; rfl
theorem zr_iv_57 {x0 : Int32} (h : z_ok nx a 20 = true) (hr : z_le4 r = true) : TR (z_st (.invokevirtual 57) n pc L (.int x0 :: .ref a :: r) (nx, fi, fl, fr)) y pn (nx, fi, fl, fr) Q = TT 57 0 [some (.ref a), some (.int x0), none, none, none, none, none] [] (nx, fi, fl, fr) (fun v M1 => TT y pn L (v.toList ++ r) M1 Q) := by
  show TR (z_if (Nat.ble 2 (.int x0 :: .ref a :: r).length && Nat.ble r.length 4) (z_if (Nat.ble (z_wd [.ref a, .int x0]) (z_ml 57) && z_ok nx a 20) (some (.inr (.inr (57, [.ref a, .int x0], L, r)))))) y pn (nx, fi, fl, fr) Q = _
  rw [z_le4_ble hr, h, show Nat.ble 2 (.int x0 :: .ref a :: r).length = true from by simp]; rfl
theorem zr_iv_58 {x0 : Int32} (h : z_ok nx a 20 = true) (hr : z_le4 r = true) : TR (z_st (.invokevirtual 58) n pc L (.int x0 :: .ref a :: r) (nx, fi, fl, fr)) y pn (nx, fi, fl, fr) Q = TT 58 0 [some (.ref a), some (.int x0), none, none] [] (nx, fi, fl, fr) (fun v M1 => TT y pn L (v.toList ++ r) M1 Q) := by
  show TR (z_if (Nat.ble 2 (.int x0 :: .ref a :: r).length && Nat.ble r.length 4) (z_if (Nat.ble (z_wd [.ref a, .int x0]) (z_ml 58) && z_ok nx a 20) (some (.inr (.inr (58, [.ref a, .int x0], L, r)))))) y pn (nx, fi, fl, fr) Q = _
  rw [z_le4_ble hr, h, show Nat.ble 2 (.int x0 :: .ref a :: r).length = true from by simp]; rfl
theorem zr_iv_59  (h : z_ok nx a 20 = true) (hr : z_le4 r = true) : TR (z_st (.invokevirtual 59) n pc L (.ref a :: r) (nx, fi, fl, fr)) y pn (nx, fi, fl, fr) Q = TT 59 0 [some (.ref a), none, none, none] [] (nx, fi, fl, fr) (fun v M1 => TT y pn L (v.toList ++ r) M1 Q) := by
  show TR (z_if (Nat.ble 1 (.ref a :: r).length && Nat.ble r.length 4) (z_if (Nat.ble (z_wd [.ref a]) (z_ml 59) && z_ok nx a 20) (some (.inr (.inr (59, [.ref a], L, r)))))) y pn (nx, fi, fl, fr) Q = _
  rw [z_le4_ble hr, h, show Nat.ble 1 (.ref a :: r).length = true from by simp]; rfl
theorem zr_iv_60  (h : z_ok nx a 20 = true) (hr : z_le4 r = true) : TR (z_st (.invokevirtual 60) n pc L (.ref a :: r) (nx, fi, fl, fr)) y pn (nx, fi, fl, fr) Q = TT 60 0 [some (.ref a), none, none] [] (nx, fi, fl, fr) (fun v M1 => TT y pn L (v.toList ++ r) M1 Q) := by
  show TR (z_if (Nat.ble 1 (.ref a :: r).length && Nat.ble r.length 4) (z_if (Nat.ble (z_wd [.ref a]) (z_ml 60) && z_ok nx a 20) (some (.inr (.inr (60, [.ref a], L, r)))))) y pn (nx, fi, fl, fr) Q = _
  rw [z_le4_ble hr, h, show Nat.ble 1 (.ref a :: r).length = true from by simp]; rfl
theorem zr_iv_61 {x0 : Int32} (h : z_ok nx a 20 = true) (hr : z_le4 r = true) : TR (z_st (.invokevirtual 61) n pc L (.int x0 :: .ref a :: r) (nx, fi, fl, fr)) y pn (nx, fi, fl, fr) Q = TT 61 0 [some (.ref a), some (.int x0), none, none, none] [] (nx, fi, fl, fr) (fun v M1 => TT y pn L (v.toList ++ r) M1 Q) := by
  show TR (z_if (Nat.ble 2 (.int x0 :: .ref a :: r).length && Nat.ble r.length 4) (z_if (Nat.ble (z_wd [.ref a, .int x0]) (z_ml 61) && z_ok nx a 20) (some (.inr (.inr (61, [.ref a, .int x0], L, r)))))) y pn (nx, fi, fl, fr) Q = _
  rw [z_le4_ble hr, h, show Nat.ble 2 (.int x0 :: .ref a :: r).length = true from by simp]; rfl
theorem zr_iv_62 {x0 : Nat} {x1 : Int32} {x2 : Int64} (hr : z_le4 r = true) : TR (z_st (.invokestatic 62) n pc L (.long x2 :: .int x1 :: .ref x0 :: r) (nx, fi, fl, fr)) y pn (nx, fi, fl, fr) Q = TT 62 0 [some (.ref x0), some (.int x1), some (.long x2), none, none, none, none, none, none, none] [] (nx, fi, fl, fr) (fun v M1 => TT y pn L (v.toList ++ r) M1 Q) := by
  show TR (z_if (Nat.ble 3 (.long x2 :: .int x1 :: .ref x0 :: r).length && Nat.ble r.length 4) (z_if (Nat.ble (z_wd [.ref x0, .int x1, .long x2]) (z_ml 62)) (some (.inr (.inr (62, [.ref x0, .int x1, .long x2], L, r)))))) y pn (nx, fi, fl, fr) Q = _
  rw [z_le4_ble hr, show Nat.ble 3 (.long x2 :: .int x1 :: .ref x0 :: r).length = true from by simp]; rfl
theorem zr_iv_63 {x0 : Int32} {x1 : Int32} {x2 : Int32} (h : z_ok nx a 20 = true) (hr : z_le4 r = true) : TR (z_st (.invokevirtual 63) n pc L (.int x2 :: .int x1 :: .int x0 :: .ref a :: r) (nx, fi, fl, fr)) y pn (nx, fi, fl, fr) Q = TT 63 0 [some (.ref a), some (.int x0), some (.int x1), some (.int x2), none, none, none] [] (nx, fi, fl, fr) (fun v M1 => TT y pn L (v.toList ++ r) M1 Q) := by
  show TR (z_if (Nat.ble 4 (.int x2 :: .int x1 :: .int x0 :: .ref a :: r).length && Nat.ble r.length 4) (z_if (Nat.ble (z_wd [.ref a, .int x0, .int x1, .int x2]) (z_ml 63) && z_ok nx a 20) (some (.inr (.inr (63, [.ref a, .int x0, .int x1, .int x2], L, r)))))) y pn (nx, fi, fl, fr) Q = _
  rw [z_le4_ble hr, h, show Nat.ble 4 (.int x2 :: .int x1 :: .int x0 :: .ref a :: r).length = true from by simp]; rfl
theorem zr_iv_64 {x0 : Int32} {x1 : Int32} {x2 : Int32} {x3 : Int64} (h : z_ok nx a 20 = true) (hr : z_le4 r = true) : TR (z_st (.invokevirtual 64) n pc L (.long x3 :: .int x2 :: .int x1 :: .int x0 :: .ref a :: r) (nx, fi, fl, fr)) y pn (nx, fi, fl, fr) Q = TT 64 0 [some (.ref a), some (.int x0), some (.int x1), some (.int x2), some (.long x3), none, none, none, none, none, none, none, none, none, none] [] (nx, fi, fl, fr) (fun v M1 => TT y pn L (v.toList ++ r) M1 Q) := by
  show TR (z_if (Nat.ble 5 (.long x3 :: .int x2 :: .int x1 :: .int x0 :: .ref a :: r).length && Nat.ble r.length 4) (z_if (Nat.ble (z_wd [.ref a, .int x0, .int x1, .int x2, .long x3]) (z_ml 64) && z_ok nx a 20) (some (.inr (.inr (64, [.ref a, .int x0, .int x1, .int x2, .long x3], L, r)))))) y pn (nx, fi, fl, fr) Q = _
  rw [z_le4_ble hr, h, show Nat.ble 5 (.long x3 :: .int x2 :: .int x1 :: .int x0 :: .ref a :: r).length = true from by simp]; rfl
theorem zr_iv_65 {x0 : Int32} (h : z_ok nx a 20 = true) (hr : z_le4 r = true) : TR (z_st (.invokevirtual 65) n pc L (.int x0 :: .ref a :: r) (nx, fi, fl, fr)) y pn (nx, fi, fl, fr) Q = TT 65 0 [some (.ref a), some (.int x0), none] [] (nx, fi, fl, fr) (fun v M1 => TT y pn L (v.toList ++ r) M1 Q) := by
  show TR (z_if (Nat.ble 2 (.int x0 :: .ref a :: r).length && Nat.ble r.length 4) (z_if (Nat.ble (z_wd [.ref a, .int x0]) (z_ml 65) && z_ok nx a 20) (some (.inr (.inr (65, [.ref a, .int x0], L, r)))))) y pn (nx, fi, fl, fr) Q = _
  rw [z_le4_ble hr, h, show Nat.ble 2 (.int x0 :: .ref a :: r).length = true from by simp]; rfl
theorem zr_iv_66 {x0 : Int32} {x1 : Int32} (h : z_ok nx a 20 = true) (hr : z_le4 r = true) : TR (z_st (.invokevirtual 66) n pc L (.int x1 :: .int x0 :: .ref a :: r) (nx, fi, fl, fr)) y pn (nx, fi, fl, fr) Q = TT 66 0 [some (.ref a), some (.int x0), some (.int x1), none] [] (nx, fi, fl, fr) (fun v M1 => TT y pn L (v.toList ++ r) M1 Q) := by
  show TR (z_if (Nat.ble 3 (.int x1 :: .int x0 :: .ref a :: r).length && Nat.ble r.length 4) (z_if (Nat.ble (z_wd [.ref a, .int x0, .int x1]) (z_ml 66) && z_ok nx a 20) (some (.inr (.inr (66, [.ref a, .int x0, .int x1], L, r)))))) y pn (nx, fi, fl, fr) Q = _
  rw [z_le4_ble hr, h, show Nat.ble 3 (.int x1 :: .int x0 :: .ref a :: r).length = true from by simp]; rfl
theorem zr_iv_67 {x0 : Int32} (h : z_ok nx a 20 = true) (hr : z_le4 r = true) : TR (z_st (.invokevirtual 67) n pc L (.int x0 :: .ref a :: r) (nx, fi, fl, fr)) y pn (nx, fi, fl, fr) Q = TT 67 0 [some (.ref a), some (.int x0), none] [] (nx, fi, fl, fr) (fun v M1 => TT y pn L (v.toList ++ r) M1 Q) := by
  show TR (z_if (Nat.ble 2 (.int x0 :: .ref a :: r).length && Nat.ble r.length 4) (z_if (Nat.ble (z_wd [.ref a, .int x0]) (z_ml 67) && z_ok nx a 20) (some (.inr (.inr (67, [.ref a, .int x0], L, r)))))) y pn (nx, fi, fl, fr) Q = _
  rw [z_le4_ble hr, h, show Nat.ble 2 (.int x0 :: .ref a :: r).length = true from by simp]; rfl
theorem zr_iv_68  (h : z_ok nx a 20 = true) (hr : z_le4 r = true) : TR (z_st (.invokevirtual 68) n pc L (.ref a :: r) (nx, fi, fl, fr)) y pn (nx, fi, fl, fr) Q = TT 68 0 [some (.ref a), none] [] (nx, fi, fl, fr) (fun v M1 => TT y pn L (v.toList ++ r) M1 Q) := by
  show TR (z_if (Nat.ble 1 (.ref a :: r).length && Nat.ble r.length 4) (z_if (Nat.ble (z_wd [.ref a]) (z_ml 68) && z_ok nx a 20) (some (.inr (.inr (68, [.ref a], L, r)))))) y pn (nx, fi, fl, fr) Q = _
  rw [z_le4_ble hr, h, show Nat.ble 1 (.ref a :: r).length = true from by simp]; rfl
theorem zr_iv_69 {x0 : Int32} (h : z_ok nx a 20 = true) (hr : z_le4 r = true) : TR (z_st (.invokevirtual 69) n pc L (.int x0 :: .ref a :: r) (nx, fi, fl, fr)) y pn (nx, fi, fl, fr) Q = TT 69 0 [some (.ref a), some (.int x0), none, none] [] (nx, fi, fl, fr) (fun v M1 => TT y pn L (v.toList ++ r) M1 Q) := by
  show TR (z_if (Nat.ble 2 (.int x0 :: .ref a :: r).length && Nat.ble r.length 4) (z_if (Nat.ble (z_wd [.ref a, .int x0]) (z_ml 69) && z_ok nx a 20) (some (.inr (.inr (69, [.ref a, .int x0], L, r)))))) y pn (nx, fi, fl, fr) Q = _
  rw [z_le4_ble hr, h, show Nat.ble 2 (.int x0 :: .ref a :: r).length = true from by simp]; rfl
theorem zr_iv_70  (h : z_ok nx a 20 = true) (hr : z_le4 r = true) : TR (z_st (.invokevirtual 70) n pc L (.ref a :: r) (nx, fi, fl, fr)) y pn (nx, fi, fl, fr) Q = TT 70 0 [some (.ref a), none] [] (nx, fi, fl, fr) (fun v M1 => TT y pn L (v.toList ++ r) M1 Q) := by
  show TR (z_if (Nat.ble 1 (.ref a :: r).length && Nat.ble r.length 4) (z_if (Nat.ble (z_wd [.ref a]) (z_ml 70) && z_ok nx a 20) (some (.inr (.inr (70, [.ref a], L, r)))))) y pn (nx, fi, fl, fr) Q = _
  rw [z_le4_ble hr, h, show Nat.ble 1 (.ref a :: r).length = true from by simp]; rfl
theorem zr_iv_71 {x0 : Int32} {x1 : Int32} (h : z_ok nx a 20 = true) (hr : z_le4 r = true) : TR (z_st (.invokevirtual 71) n pc L (.int x1 :: .int x0 :: .ref a :: r) (nx, fi, fl, fr)) y pn (nx, fi, fl, fr) Q = TT 71 0 [some (.ref a), some (.int x0), some (.int x1), none] [] (nx, fi, fl, fr) (fun v M1 => TT y pn L (v.toList ++ r) M1 Q) := by
  show TR (z_if (Nat.ble 3 (.int x1 :: .int x0 :: .ref a :: r).length && Nat.ble r.length 4) (z_if (Nat.ble (z_wd [.ref a, .int x0, .int x1]) (z_ml 71) && z_ok nx a 20) (some (.inr (.inr (71, [.ref a, .int x0, .int x1], L, r)))))) y pn (nx, fi, fl, fr) Q = _
  rw [z_le4_ble hr, h, show Nat.ble 3 (.int x1 :: .int x0 :: .ref a :: r).length = true from by simp]; rfl
theorem zr_iv_72 {x0 : Int32} {x1 : Int32} (h : z_ok nx a 20 = true) (hr : z_le4 r = true) : TR (z_st (.invokevirtual 72) n pc L (.int x1 :: .int x0 :: .ref a :: r) (nx, fi, fl, fr)) y pn (nx, fi, fl, fr) Q = TT 72 0 [some (.ref a), some (.int x0), some (.int x1)] [] (nx, fi, fl, fr) (fun v M1 => TT y pn L (v.toList ++ r) M1 Q) := by
  show TR (z_if (Nat.ble 3 (.int x1 :: .int x0 :: .ref a :: r).length && Nat.ble r.length 4) (z_if (Nat.ble (z_wd [.ref a, .int x0, .int x1]) (z_ml 72) && z_ok nx a 20) (some (.inr (.inr (72, [.ref a, .int x0, .int x1], L, r)))))) y pn (nx, fi, fl, fr) Q = _
  rw [z_le4_ble hr, h, show Nat.ble 3 (.int x1 :: .int x0 :: .ref a :: r).length = true from by simp]; rfl
theorem zr_iv_73 {x0 : Int32} (h : z_ok nx a 20 = true) (hr : z_le4 r = true) : TR (z_st (.invokevirtual 73) n pc L (.int x0 :: .ref a :: r) (nx, fi, fl, fr)) y pn (nx, fi, fl, fr) Q = TT 73 0 [some (.ref a), some (.int x0)] [] (nx, fi, fl, fr) (fun v M1 => TT y pn L (v.toList ++ r) M1 Q) := by
  show TR (z_if (Nat.ble 2 (.int x0 :: .ref a :: r).length && Nat.ble r.length 4) (z_if (Nat.ble (z_wd [.ref a, .int x0]) (z_ml 73) && z_ok nx a 20) (some (.inr (.inr (73, [.ref a, .int x0], L, r)))))) y pn (nx, fi, fl, fr) Q = _
  rw [z_le4_ble hr, h, show Nat.ble 2 (.int x0 :: .ref a :: r).length = true from by simp]; rfl
theorem zr_iv_74 {x0 : Int32} (h : z_ok nx a 20 = true) (hr : z_le4 r = true) : TR (z_st (.invokevirtual 74) n pc L (.int x0 :: .ref a :: r) (nx, fi, fl, fr)) y pn (nx, fi, fl, fr) Q = TT 74 0 [some (.ref a), some (.int x0)] [] (nx, fi, fl, fr) (fun v M1 => TT y pn L (v.toList ++ r) M1 Q) := by
  show TR (z_if (Nat.ble 2 (.int x0 :: .ref a :: r).length && Nat.ble r.length 4) (z_if (Nat.ble (z_wd [.ref a, .int x0]) (z_ml 74) && z_ok nx a 20) (some (.inr (.inr (74, [.ref a, .int x0], L, r)))))) y pn (nx, fi, fl, fr) Q = _
  rw [z_le4_ble hr, h, show Nat.ble 2 (.int x0 :: .ref a :: r).length = true from by simp]; rfl
theorem zr_iv_75 {x0 : Int32} {x1 : Int32} (h : z_ok nx a 20 = true) (hr : z_le4 r = true) : TR (z_st (.invokevirtual 75) n pc L (.int x1 :: .int x0 :: .ref a :: r) (nx, fi, fl, fr)) y pn (nx, fi, fl, fr) Q = TT 75 0 [some (.ref a), some (.int x0), some (.int x1)] [] (nx, fi, fl, fr) (fun v M1 => TT y pn L (v.toList ++ r) M1 Q) := by
  show TR (z_if (Nat.ble 3 (.int x1 :: .int x0 :: .ref a :: r).length && Nat.ble r.length 4) (z_if (Nat.ble (z_wd [.ref a, .int x0, .int x1]) (z_ml 75) && z_ok nx a 20) (some (.inr (.inr (75, [.ref a, .int x0, .int x1], L, r)))))) y pn (nx, fi, fl, fr) Q = _
  rw [z_le4_ble hr, h, show Nat.ble 3 (.int x1 :: .int x0 :: .ref a :: r).length = true from by simp]; rfl
theorem zr_iv_76 {x0 : Int32} (h : z_ok nx a 20 = true) (hr : z_le4 r = true) : TR (z_st (.invokevirtual 76) n pc L (.int x0 :: .ref a :: r) (nx, fi, fl, fr)) y pn (nx, fi, fl, fr) Q = TT 76 0 [some (.ref a), some (.int x0)] [] (nx, fi, fl, fr) (fun v M1 => TT y pn L (v.toList ++ r) M1 Q) := by
  show TR (z_if (Nat.ble 2 (.int x0 :: .ref a :: r).length && Nat.ble r.length 4) (z_if (Nat.ble (z_wd [.ref a, .int x0]) (z_ml 76) && z_ok nx a 20) (some (.inr (.inr (76, [.ref a, .int x0], L, r)))))) y pn (nx, fi, fl, fr) Q = _
  rw [z_le4_ble hr, h, show Nat.ble 2 (.int x0 :: .ref a :: r).length = true from by simp]; rfl
theorem zr_iv_77 {x0 : Int32} (h : z_ok nx a 20 = true) (hr : z_le4 r = true) : TR (z_st (.invokevirtual 77) n pc L (.int x0 :: .ref a :: r) (nx, fi, fl, fr)) y pn (nx, fi, fl, fr) Q = TT 77 0 [some (.ref a), some (.int x0)] [] (nx, fi, fl, fr) (fun v M1 => TT y pn L (v.toList ++ r) M1 Q) := by
  show TR (z_if (Nat.ble 2 (.int x0 :: .ref a :: r).length && Nat.ble r.length 4) (z_if (Nat.ble (z_wd [.ref a, .int x0]) (z_ml 77) && z_ok nx a 20) (some (.inr (.inr (77, [.ref a, .int x0], L, r)))))) y pn (nx, fi, fl, fr) Q = _
  rw [z_le4_ble hr, h, show Nat.ble 2 (.int x0 :: .ref a :: r).length = true from by simp]; rfl
theorem zr_iv_78 {x0 : Int32} (h : z_ok nx a 20 = true) (hr : z_le4 r = true) : TR (z_st (.invokevirtual 78) n pc L (.int x0 :: .ref a :: r) (nx, fi, fl, fr)) y pn (nx, fi, fl, fr) Q = TT 78 0 [some (.ref a), some (.int x0)] [] (nx, fi, fl, fr) (fun v M1 => TT y pn L (v.toList ++ r) M1 Q) := by
  show TR (z_if (Nat.ble 2 (.int x0 :: .ref a :: r).length && Nat.ble r.length 4) (z_if (Nat.ble (z_wd [.ref a, .int x0]) (z_ml 78) && z_ok nx a 20) (some (.inr (.inr (78, [.ref a, .int x0], L, r)))))) y pn (nx, fi, fl, fr) Q = _
  rw [z_le4_ble hr, h, show Nat.ble 2 (.int x0 :: .ref a :: r).length = true from by simp]; rfl
theorem zr_iv_79 {x0 : Int32} (h : z_ok nx a 20 = true) (hr : z_le4 r = true) : TR (z_st (.invokevirtual 79) n pc L (.int x0 :: .ref a :: r) (nx, fi, fl, fr)) y pn (nx, fi, fl, fr) Q = TT 79 0 [some (.ref a), some (.int x0)] [] (nx, fi, fl, fr) (fun v M1 => TT y pn L (v.toList ++ r) M1 Q) := by
  show TR (z_if (Nat.ble 2 (.int x0 :: .ref a :: r).length && Nat.ble r.length 4) (z_if (Nat.ble (z_wd [.ref a, .int x0]) (z_ml 79) && z_ok nx a 20) (some (.inr (.inr (79, [.ref a, .int x0], L, r)))))) y pn (nx, fi, fl, fr) Q = _
  rw [z_le4_ble hr, h, show Nat.ble 2 (.int x0 :: .ref a :: r).length = true from by simp]; rfl
theorem zr_iv_80 {x0 : Int32} (h : z_ok nx a 20 = true) (hr : z_le4 r = true) : TR (z_st (.invokevirtual 80) n pc L (.int x0 :: .ref a :: r) (nx, fi, fl, fr)) y pn (nx, fi, fl, fr) Q = TT 80 0 [some (.ref a), some (.int x0)] [] (nx, fi, fl, fr) (fun v M1 => TT y pn L (v.toList ++ r) M1 Q) := by
  show TR (z_if (Nat.ble 2 (.int x0 :: .ref a :: r).length && Nat.ble r.length 4) (z_if (Nat.ble (z_wd [.ref a, .int x0]) (z_ml 80) && z_ok nx a 20) (some (.inr (.inr (80, [.ref a, .int x0], L, r)))))) y pn (nx, fi, fl, fr) Q = _
  rw [z_le4_ble hr, h, show Nat.ble 2 (.int x0 :: .ref a :: r).length = true from by simp]; rfl
theorem zr_iv_81 {x0 : Int64} (h : z_ok nx a 20 = true) (hr : z_le4 r = true) : TR (z_st (.invokevirtual 81) n pc L (.long x0 :: .ref a :: r) (nx, fi, fl, fr)) y pn (nx, fi, fl, fr) Q = TT 81 0 [some (.ref a), some (.long x0), none] [] (nx, fi, fl, fr) (fun v M1 => TT y pn L (v.toList ++ r) M1 Q) := by
  show TR (z_if (Nat.ble 2 (.long x0 :: .ref a :: r).length && Nat.ble r.length 4) (z_if (Nat.ble (z_wd [.ref a, .long x0]) (z_ml 81) && z_ok nx a 20) (some (.inr (.inr (81, [.ref a, .long x0], L, r)))))) y pn (nx, fi, fl, fr) Q = _
  rw [z_le4_ble hr, h, show Nat.ble 2 (.long x0 :: .ref a :: r).length = true from by simp]; rfl
theorem zr_iv_82  (h : z_ok nx a 20 = true) (hr : z_le4 r = true) : TR (z_st (.invokevirtual 82) n pc L (.ref a :: r) (nx, fi, fl, fr)) y pn (nx, fi, fl, fr) Q = TT 82 0 [some (.ref a), none, none] [] (nx, fi, fl, fr) (fun v M1 => TT y pn L (v.toList ++ r) M1 Q) := by
  show TR (z_if (Nat.ble 1 (.ref a :: r).length && Nat.ble r.length 4) (z_if (Nat.ble (z_wd [.ref a]) (z_ml 82) && z_ok nx a 20) (some (.inr (.inr (82, [.ref a], L, r)))))) y pn (nx, fi, fl, fr) Q = _
  rw [z_le4_ble hr, h, show Nat.ble 1 (.ref a :: r).length = true from by simp]; rfl
theorem zr_iv_83  (h : z_ok nx a 10 = true) (hr : z_le4 r = true) : TR (z_st (.invokespecial 83) n pc L (.ref a :: r) (nx, fi, fl, fr)) y pn (nx, fi, fl, fr) Q = TT 83 0 [some (.ref a), none] [] (nx, fi, fl, fr) (fun v M1 => TT y pn L (v.toList ++ r) M1 Q) := by
  show TR (z_if (Nat.ble 1 (.ref a :: r).length && Nat.ble r.length 4) (z_if (Nat.ble (z_wd [.ref a]) (z_ml 83) && z_ok nx a 10) (some (.inr (.inr (83, [.ref a], L, r)))))) y pn (nx, fi, fl, fr) Q = _
  rw [z_le4_ble hr, h, show Nat.ble 1 (.ref a :: r).length = true from by simp]; rfl
theorem zr_iv_84 {x0 : Int32} {x1 : Int32} (h : z_ok nx a 10 = true) (hr : z_le4 r = true) : TR (z_st (.invokevirtual 84) n pc L (.int x1 :: .int x0 :: .ref a :: r) (nx, fi, fl, fr)) y pn (nx, fi, fl, fr) Q = TT 84 0 [some (.ref a), some (.int x0), some (.int x1)] [] (nx, fi, fl, fr) (fun v M1 => TT y pn L (v.toList ++ r) M1 Q) := by
  show TR (z_if (Nat.ble 3 (.int x1 :: .int x0 :: .ref a :: r).length && Nat.ble r.length 4) (z_if (Nat.ble (z_wd [.ref a, .int x0, .int x1]) (z_ml 84) && z_ok nx a 10) (some (.inr (.inr (84, [.ref a, .int x0, .int x1], L, r)))))) y pn (nx, fi, fl, fr) Q = _
  rw [z_le4_ble hr, h, show Nat.ble 3 (.int x1 :: .int x0 :: .ref a :: r).length = true from by simp]; rfl
theorem zr_iv_85  (h : z_ok nx a 10 = true) (hr : z_le4 r = true) : TR (z_st (.invokevirtual 85) n pc L (.ref a :: r) (nx, fi, fl, fr)) y pn (nx, fi, fl, fr) Q = TT 85 0 [some (.ref a)] [] (nx, fi, fl, fr) (fun v M1 => TT y pn L (v.toList ++ r) M1 Q) := by
  show TR (z_if (Nat.ble 1 (.ref a :: r).length && Nat.ble r.length 4) (z_if (Nat.ble (z_wd [.ref a]) (z_ml 85) && z_ok nx a 10) (some (.inr (.inr (85, [.ref a], L, r)))))) y pn (nx, fi, fl, fr) Q = _
  rw [z_le4_ble hr, h, show Nat.ble 1 (.ref a :: r).length = true from by simp]; rfl
theorem zr_iv_86 {x0 : Int32} {x1 : Int32} {x2 : Int32} {x3 : Int32} {x4 : Int32} (h : z_ok nx a 10 = true) (hr : z_le4 r = true) : TR (z_st (.invokevirtual 86) n pc L (.int x4 :: .int x3 :: .int x2 :: .int x1 :: .int x0 :: .ref a :: r) (nx, fi, fl, fr)) y pn (nx, fi, fl, fr) Q = TT 86 0 [some (.ref a), some (.int x0), some (.int x1), some (.int x2), some (.int x3), some (.int x4)] [] (nx, fi, fl, fr) (fun v M1 => TT y pn L (v.toList ++ r) M1 Q) := by
  show TR (z_if (Nat.ble 6 (.int x4 :: .int x3 :: .int x2 :: .int x1 :: .int x0 :: .ref a :: r).length && Nat.ble r.length 4) (z_if (Nat.ble (z_wd [.ref a, .int x0, .int x1, .int x2, .int x3, .int x4]) (z_ml 86) && z_ok nx a 10) (some (.inr (.inr (86, [.ref a, .int x0, .int x1, .int x2, .int x3, .int x4], L, r)))))) y pn (nx, fi, fl, fr) Q = _
  rw [z_le4_ble hr, h, show Nat.ble 6 (.int x4 :: .int x3 :: .int x2 :: .int x1 :: .int x0 :: .ref a :: r).length = true from by simp]; rfl
theorem zr_iv_87 {x0 : Int32} (h : z_ok nx a 10 = true) (hr : z_le4 r = true) : TR (z_st (.invokevirtual 87) n pc L (.int x0 :: .ref a :: r) (nx, fi, fl, fr)) y pn (nx, fi, fl, fr) Q = TT 87 0 [some (.ref a), some (.int x0)] [] (nx, fi, fl, fr) (fun v M1 => TT y pn L (v.toList ++ r) M1 Q) := by
  show TR (z_if (Nat.ble 2 (.int x0 :: .ref a :: r).length && Nat.ble r.length 4) (z_if (Nat.ble (z_wd [.ref a, .int x0]) (z_ml 87) && z_ok nx a 10) (some (.inr (.inr (87, [.ref a, .int x0], L, r)))))) y pn (nx, fi, fl, fr) Q = _
  rw [z_le4_ble hr, h, show Nat.ble 2 (.int x0 :: .ref a :: r).length = true from by simp]; rfl
theorem zr_iv_88 {x0 : Int32} (h : z_ok nx a 10 = true) (hr : z_le4 r = true) : TR (z_st (.invokevirtual 88) n pc L (.int x0 :: .ref a :: r) (nx, fi, fl, fr)) y pn (nx, fi, fl, fr) Q = TT 88 0 [some (.ref a), some (.int x0)] [] (nx, fi, fl, fr) (fun v M1 => TT y pn L (v.toList ++ r) M1 Q) := by
  show TR (z_if (Nat.ble 2 (.int x0 :: .ref a :: r).length && Nat.ble r.length 4) (z_if (Nat.ble (z_wd [.ref a, .int x0]) (z_ml 88) && z_ok nx a 10) (some (.inr (.inr (88, [.ref a, .int x0], L, r)))))) y pn (nx, fi, fl, fr) Q = _
  rw [z_le4_ble hr, h, show Nat.ble 2 (.int x0 :: .ref a :: r).length = true from by simp]; rfl
theorem zr_iv_89 {x0 : Int32} {x1 : Int32} (h : z_ok nx a 10 = true) (hr : z_le4 r = true) : TR (z_st (.invokevirtual 89) n pc L (.int x1 :: .int x0 :: .ref a :: r) (nx, fi, fl, fr)) y pn (nx, fi, fl, fr) Q = TT 89 0 [some (.ref a), some (.int x0), some (.int x1), none] [] (nx, fi, fl, fr) (fun v M1 => TT y pn L (v.toList ++ r) M1 Q) := by
  show TR (z_if (Nat.ble 3 (.int x1 :: .int x0 :: .ref a :: r).length && Nat.ble r.length 4) (z_if (Nat.ble (z_wd [.ref a, .int x0, .int x1]) (z_ml 89) && z_ok nx a 10) (some (.inr (.inr (89, [.ref a, .int x0, .int x1], L, r)))))) y pn (nx, fi, fl, fr) Q = _
  rw [z_le4_ble hr, h, show Nat.ble 3 (.int x1 :: .int x0 :: .ref a :: r).length = true from by simp]; rfl
theorem zr_iv_90 {x0 : Int64} {x1 : Int32} (h : z_ok nx a 10 = true) (hr : z_le4 r = true) : TR (z_st (.invokevirtual 90) n pc L (.int x1 :: .long x0 :: .ref a :: r) (nx, fi, fl, fr)) y pn (nx, fi, fl, fr) Q = TT 90 0 [some (.ref a), some (.long x0), none, some (.int x1)] [] (nx, fi, fl, fr) (fun v M1 => TT y pn L (v.toList ++ r) M1 Q) := by
  show TR (z_if (Nat.ble 3 (.int x1 :: .long x0 :: .ref a :: r).length && Nat.ble r.length 4) (z_if (Nat.ble (z_wd [.ref a, .long x0, .int x1]) (z_ml 90) && z_ok nx a 10) (some (.inr (.inr (90, [.ref a, .long x0, .int x1], L, r)))))) y pn (nx, fi, fl, fr) Q = _
  rw [z_le4_ble hr, h, show Nat.ble 3 (.int x1 :: .long x0 :: .ref a :: r).length = true from by simp]; rfl
theorem zr_iv_91  (h : z_ok nx a 10 = true) (hr : z_le4 r = true) : TR (z_st (.invokevirtual 91) n pc L (.ref a :: r) (nx, fi, fl, fr)) y pn (nx, fi, fl, fr) Q = TT 91 0 [some (.ref a), none] [] (nx, fi, fl, fr) (fun v M1 => TT y pn L (v.toList ++ r) M1 Q) := by
  show TR (z_if (Nat.ble 1 (.ref a :: r).length && Nat.ble r.length 4) (z_if (Nat.ble (z_wd [.ref a]) (z_ml 91) && z_ok nx a 10) (some (.inr (.inr (91, [.ref a], L, r)))))) y pn (nx, fi, fl, fr) Q = _
  rw [z_le4_ble hr, h, show Nat.ble 1 (.ref a :: r).length = true from by simp]; rfl
theorem zr_iv_92  (h : z_ok nx a 10 = true) (hr : z_le4 r = true) : TR (z_st (.invokevirtual 92) n pc L (.ref a :: r) (nx, fi, fl, fr)) y pn (nx, fi, fl, fr) Q = TT 92 0 [some (.ref a), none, none] [] (nx, fi, fl, fr) (fun v M1 => TT y pn L (v.toList ++ r) M1 Q) := by
  show TR (z_if (Nat.ble 1 (.ref a :: r).length && Nat.ble r.length 4) (z_if (Nat.ble (z_wd [.ref a]) (z_ml 92) && z_ok nx a 10) (some (.inr (.inr (92, [.ref a], L, r)))))) y pn (nx, fi, fl, fr) Q = _
  rw [z_le4_ble hr, h, show Nat.ble 1 (.ref a :: r).length = true from by simp]; rfl
theorem zr_iv_93  (h : z_ok nx a 10 = true) (hr : z_le4 r = true) : TR (z_st (.invokevirtual 93) n pc L (.ref a :: r) (nx, fi, fl, fr)) y pn (nx, fi, fl, fr) Q = TT 93 0 [some (.ref a)] [] (nx, fi, fl, fr) (fun v M1 => TT y pn L (v.toList ++ r) M1 Q) := by
  show TR (z_if (Nat.ble 1 (.ref a :: r).length && Nat.ble r.length 4) (z_if (Nat.ble (z_wd [.ref a]) (z_ml 93) && z_ok nx a 10) (some (.inr (.inr (93, [.ref a], L, r)))))) y pn (nx, fi, fl, fr) Q = _
  rw [z_le4_ble hr, h, show Nat.ble 1 (.ref a :: r).length = true from by simp]; rfl
theorem zr_iv_94 {x0 : Int32} (h : z_ok nx a 10 = true) (hr : z_le4 r = true) : TR (z_st (.invokevirtual 94) n pc L (.int x0 :: .ref a :: r) (nx, fi, fl, fr)) y pn (nx, fi, fl, fr) Q = TT 94 0 [some (.ref a), some (.int x0)] [] (nx, fi, fl, fr) (fun v M1 => TT y pn L (v.toList ++ r) M1 Q) := by
  show TR (z_if (Nat.ble 2 (.int x0 :: .ref a :: r).length && Nat.ble r.length 4) (z_if (Nat.ble (z_wd [.ref a, .int x0]) (z_ml 94) && z_ok nx a 10) (some (.inr (.inr (94, [.ref a, .int x0], L, r)))))) y pn (nx, fi, fl, fr) Q = _
  rw [z_le4_ble hr, h, show Nat.ble 2 (.int x0 :: .ref a :: r).length = true from by simp]; rfl
theorem zr_iv_95 {x0 : Int32} {x1 : Int32} (h : z_ok nx a 10 = true) (hr : z_le4 r = true) : TR (z_st (.invokevirtual 95) n pc L (.int x1 :: .int x0 :: .ref a :: r) (nx, fi, fl, fr)) y pn (nx, fi, fl, fr) Q = TT 95 0 [some (.ref a), some (.int x0), some (.int x1)] [] (nx, fi, fl, fr) (fun v M1 => TT y pn L (v.toList ++ r) M1 Q) := by
  show TR (z_if (Nat.ble 3 (.int x1 :: .int x0 :: .ref a :: r).length && Nat.ble r.length 4) (z_if (Nat.ble (z_wd [.ref a, .int x0, .int x1]) (z_ml 95) && z_ok nx a 10) (some (.inr (.inr (95, [.ref a, .int x0, .int x1], L, r)))))) y pn (nx, fi, fl, fr) Q = _
  rw [z_le4_ble hr, h, show Nat.ble 3 (.int x1 :: .int x0 :: .ref a :: r).length = true from by simp]; rfl
theorem zr_iv_96 {x0 : Int32} (h : z_ok nx a 10 = true) (hr : z_le4 r = true) : TR (z_st (.invokevirtual 96) n pc L (.int x0 :: .ref a :: r) (nx, fi, fl, fr)) y pn (nx, fi, fl, fr) Q = TT 96 0 [some (.ref a), some (.int x0)] [] (nx, fi, fl, fr) (fun v M1 => TT y pn L (v.toList ++ r) M1 Q) := by
  show TR (z_if (Nat.ble 2 (.int x0 :: .ref a :: r).length && Nat.ble r.length 4) (z_if (Nat.ble (z_wd [.ref a, .int x0]) (z_ml 96) && z_ok nx a 10) (some (.inr (.inr (96, [.ref a, .int x0], L, r)))))) y pn (nx, fi, fl, fr) Q = _
  rw [z_le4_ble hr, h, show Nat.ble 2 (.int x0 :: .ref a :: r).length = true from by simp]; rfl
theorem zr_iv_97 {x0 : Int32} (h : z_ok nx a 10 = true) (hr : z_le4 r = true) : TR (z_st (.invokevirtual 97) n pc L (.int x0 :: .ref a :: r) (nx, fi, fl, fr)) y pn (nx, fi, fl, fr) Q = TT 97 0 [some (.ref a), some (.int x0), none, none] [] (nx, fi, fl, fr) (fun v M1 => TT y pn L (v.toList ++ r) M1 Q) := by
  show TR (z_if (Nat.ble 2 (.int x0 :: .ref a :: r).length && Nat.ble r.length 4) (z_if (Nat.ble (z_wd [.ref a, .int x0]) (z_ml 97) && z_ok nx a 10) (some (.inr (.inr (97, [.ref a, .int x0], L, r)))))) y pn (nx, fi, fl, fr) Q = _
  rw [z_le4_ble hr, h, show Nat.ble 2 (.int x0 :: .ref a :: r).length = true from by simp]; rfl
theorem zr_iv_98  (h : z_ok nx a 10 = true) (hr : z_le4 r = true) : TR (z_st (.invokevirtual 98) n pc L (.ref a :: r) (nx, fi, fl, fr)) y pn (nx, fi, fl, fr) Q = TT 98 0 [some (.ref a), none, none, none] [] (nx, fi, fl, fr) (fun v M1 => TT y pn L (v.toList ++ r) M1 Q) := by
  show TR (z_if (Nat.ble 1 (.ref a :: r).length && Nat.ble r.length 4) (z_if (Nat.ble (z_wd [.ref a]) (z_ml 98) && z_ok nx a 10) (some (.inr (.inr (98, [.ref a], L, r)))))) y pn (nx, fi, fl, fr) Q = _
  rw [z_le4_ble hr, h, show Nat.ble 1 (.ref a :: r).length = true from by simp]; rfl
theorem zr_iv_99  (h : z_ok nx a 10 = true) (hr : z_le4 r = true) : TR (z_st (.invokevirtual 99) n pc L (.ref a :: r) (nx, fi, fl, fr)) y pn (nx, fi, fl, fr) Q = TT 99 0 [some (.ref a), none, none] [] (nx, fi, fl, fr) (fun v M1 => TT y pn L (v.toList ++ r) M1 Q) := by
  show TR (z_if (Nat.ble 1 (.ref a :: r).length && Nat.ble r.length 4) (z_if (Nat.ble (z_wd [.ref a]) (z_ml 99) && z_ok nx a 10) (some (.inr (.inr (99, [.ref a], L, r)))))) y pn (nx, fi, fl, fr) Q = _
  rw [z_le4_ble hr, h, show Nat.ble 1 (.ref a :: r).length = true from by simp]; rfl
theorem zr_iv_100 {x0 : Int32} (h : z_ok nx a 10 = true) (hr : z_le4 r = true) : TR (z_st (.invokevirtual 100) n pc L (.int x0 :: .ref a :: r) (nx, fi, fl, fr)) y pn (nx, fi, fl, fr) Q = TT 100 0 [some (.ref a), some (.int x0), none, none, none] [] (nx, fi, fl, fr) (fun v M1 => TT y pn L (v.toList ++ r) M1 Q) := by
  show TR (z_if (Nat.ble 2 (.int x0 :: .ref a :: r).length && Nat.ble r.length 4) (z_if (Nat.ble (z_wd [.ref a, .int x0]) (z_ml 100) && z_ok nx a 10) (some (.inr (.inr (100, [.ref a, .int x0], L, r)))))) y pn (nx, fi, fl, fr) Q = _
  rw [z_le4_ble hr, h, show Nat.ble 2 (.int x0 :: .ref a :: r).length = true from by simp]; rfl
theorem zr_iv_101 {x0 : Int32} (h : z_ok nx a 10 = true) (hr : z_le4 r = true) : TR (z_st (.invokevirtual 101) n pc L (.int x0 :: .ref a :: r) (nx, fi, fl, fr)) y pn (nx, fi, fl, fr) Q = TT 101 0 [some (.ref a), some (.int x0)] [] (nx, fi, fl, fr) (fun v M1 => TT y pn L (v.toList ++ r) M1 Q) := by
  show TR (z_if (Nat.ble 2 (.int x0 :: .ref a :: r).length && Nat.ble r.length 4) (z_if (Nat.ble (z_wd [.ref a, .int x0]) (z_ml 101) && z_ok nx a 10) (some (.inr (.inr (101, [.ref a, .int x0], L, r)))))) y pn (nx, fi, fl, fr) Q = _
  rw [z_le4_ble hr, h, show Nat.ble 2 (.int x0 :: .ref a :: r).length = true from by simp]; rfl
theorem zr_iv_102 {x0 : Int32} {x1 : Int32} (h : z_ok nx a 10 = true) (hr : z_le4 r = true) : TR (z_st (.invokevirtual 102) n pc L (.int x1 :: .int x0 :: .ref a :: r) (nx, fi, fl, fr)) y pn (nx, fi, fl, fr) Q = TT 102 0 [some (.ref a), some (.int x0), some (.int x1)] [] (nx, fi, fl, fr) (fun v M1 => TT y pn L (v.toList ++ r) M1 Q) := by
  show TR (z_if (Nat.ble 3 (.int x1 :: .int x0 :: .ref a :: r).length && Nat.ble r.length 4) (z_if (Nat.ble (z_wd [.ref a, .int x0, .int x1]) (z_ml 102) && z_ok nx a 10) (some (.inr (.inr (102, [.ref a, .int x0, .int x1], L, r)))))) y pn (nx, fi, fl, fr) Q = _
  rw [z_le4_ble hr, h, show Nat.ble 3 (.int x1 :: .int x0 :: .ref a :: r).length = true from by simp]; rfl
theorem zr_iv_103 {x0 : Int32} (h : z_ok nx a 10 = true) (hr : z_le4 r = true) : TR (z_st (.invokevirtual 103) n pc L (.int x0 :: .ref a :: r) (nx, fi, fl, fr)) y pn (nx, fi, fl, fr) Q = TT 103 0 [some (.ref a), some (.int x0), none] [] (nx, fi, fl, fr) (fun v M1 => TT y pn L (v.toList ++ r) M1 Q) := by
  show TR (z_if (Nat.ble 2 (.int x0 :: .ref a :: r).length && Nat.ble r.length 4) (z_if (Nat.ble (z_wd [.ref a, .int x0]) (z_ml 103) && z_ok nx a 10) (some (.inr (.inr (103, [.ref a, .int x0], L, r)))))) y pn (nx, fi, fl, fr) Q = _
  rw [z_le4_ble hr, h, show Nat.ble 2 (.int x0 :: .ref a :: r).length = true from by simp]; rfl
theorem zr_iv_104  (h : z_ok nx a 10 = true) (hr : z_le4 r = true) : TR (z_st (.invokevirtual 104) n pc L (.ref a :: r) (nx, fi, fl, fr)) y pn (nx, fi, fl, fr) Q = TT 104 0 [some (.ref a)] [] (nx, fi, fl, fr) (fun v M1 => TT y pn L (v.toList ++ r) M1 Q) := by
  show TR (z_if (Nat.ble 1 (.ref a :: r).length && Nat.ble r.length 4) (z_if (Nat.ble (z_wd [.ref a]) (z_ml 104) && z_ok nx a 10) (some (.inr (.inr (104, [.ref a], L, r)))))) y pn (nx, fi, fl, fr) Q = _
  rw [z_le4_ble hr, h, show Nat.ble 1 (.ref a :: r).length = true from by simp]; rfl
theorem zr_iv_105 {x0 : Int32} (h : z_ok nx a 10 = true) (hr : z_le4 r = true) : TR (z_st (.invokevirtual 105) n pc L (.int x0 :: .ref a :: r) (nx, fi, fl, fr)) y pn (nx, fi, fl, fr) Q = TT 105 0 [some (.ref a), some (.int x0)] [] (nx, fi, fl, fr) (fun v M1 => TT y pn L (v.toList ++ r) M1 Q) := by
  show TR (z_if (Nat.ble 2 (.int x0 :: .ref a :: r).length && Nat.ble r.length 4) (z_if (Nat.ble (z_wd [.ref a, .int x0]) (z_ml 105) && z_ok nx a 10) (some (.inr (.inr (105, [.ref a, .int x0], L, r)))))) y pn (nx, fi, fl, fr) Q = _
  rw [z_le4_ble hr, h, show Nat.ble 2 (.int x0 :: .ref a :: r).length = true from by simp]; rfl
theorem zr_iv_106  (h : z_ok nx a 10 = true) (hr : z_le4 r = true) : TR (z_st (.invokevirtual 106) n pc L (.ref a :: r) (nx, fi, fl, fr)) y pn (nx, fi, fl, fr) Q = TT 106 0 [some (.ref a)] [] (nx, fi, fl, fr) (fun v M1 => TT y pn L (v.toList ++ r) M1 Q) := by
  show TR (z_if (Nat.ble 1 (.ref a :: r).length && Nat.ble r.length 4) (z_if (Nat.ble (z_wd [.ref a]) (z_ml 106) && z_ok nx a 10) (some (.inr (.inr (106, [.ref a], L, r)))))) y pn (nx, fi, fl, fr) Q = _
  rw [z_le4_ble hr, h, show Nat.ble 1 (.ref a :: r).length = true from by simp]; rfl
theorem zr_iv_107 {x0 : Int32} {x1 : Int32} (h : z_ok nx a 10 = true) (hr : z_le4 r = true) : TR (z_st (.invokevirtual 107) n pc L (.int x1 :: .int x0 :: .ref a :: r) (nx, fi, fl, fr)) y pn (nx, fi, fl, fr) Q = TT 107 0 [some (.ref a), some (.int x0), some (.int x1)] [] (nx, fi, fl, fr) (fun v M1 => TT y pn L (v.toList ++ r) M1 Q) := by
  show TR (z_if (Nat.ble 3 (.int x1 :: .int x0 :: .ref a :: r).length && Nat.ble r.length 4) (z_if (Nat.ble (z_wd [.ref a, .int x0, .int x1]) (z_ml 107) && z_ok nx a 10) (some (.inr (.inr (107, [.ref a, .int x0, .int x1], L, r)))))) y pn (nx, fi, fl, fr) Q = _
  rw [z_le4_ble hr, h, show Nat.ble 3 (.int x1 :: .int x0 :: .ref a :: r).length = true from by simp]; rfl
theorem zr_iv_108 {x0 : Int32} (h : z_ok nx a 10 = true) (hr : z_le4 r = true) : TR (z_st (.invokevirtual 108) n pc L (.int x0 :: .ref a :: r) (nx, fi, fl, fr)) y pn (nx, fi, fl, fr) Q = TT 108 0 [some (.ref a), some (.int x0)] [] (nx, fi, fl, fr) (fun v M1 => TT y pn L (v.toList ++ r) M1 Q) := by
  show TR (z_if (Nat.ble 2 (.int x0 :: .ref a :: r).length && Nat.ble r.length 4) (z_if (Nat.ble (z_wd [.ref a, .int x0]) (z_ml 108) && z_ok nx a 10) (some (.inr (.inr (108, [.ref a, .int x0], L, r)))))) y pn (nx, fi, fl, fr) Q = _
  rw [z_le4_ble hr, h, show Nat.ble 2 (.int x0 :: .ref a :: r).length = true from by simp]; rfl
theorem zr_iv_109 {x0 : Int32} {x1 : Int32} (h : z_ok nx a 10 = true) (hr : z_le4 r = true) : TR (z_st (.invokevirtual 109) n pc L (.int x1 :: .int x0 :: .ref a :: r) (nx, fi, fl, fr)) y pn (nx, fi, fl, fr) Q = TT 109 0 [some (.ref a), some (.int x0), some (.int x1)] [] (nx, fi, fl, fr) (fun v M1 => TT y pn L (v.toList ++ r) M1 Q) := by
  show TR (z_if (Nat.ble 3 (.int x1 :: .int x0 :: .ref a :: r).length && Nat.ble r.length 4) (z_if (Nat.ble (z_wd [.ref a, .int x0, .int x1]) (z_ml 109) && z_ok nx a 10) (some (.inr (.inr (109, [.ref a, .int x0, .int x1], L, r)))))) y pn (nx, fi, fl, fr) Q = _
  rw [z_le4_ble hr, h, show Nat.ble 3 (.int x1 :: .int x0 :: .ref a :: r).length = true from by simp]; rfl
theorem zr_iv_110 {x0 : Int32} (h : z_ok nx a 10 = true) (hr : z_le4 r = true) : TR (z_st (.invokevirtual 110) n pc L (.int x0 :: .ref a :: r) (nx, fi, fl, fr)) y pn (nx, fi, fl, fr) Q = TT 110 0 [some (.ref a), some (.int x0)] [] (nx, fi, fl, fr) (fun v M1 => TT y pn L (v.toList ++ r) M1 Q) := by
  show TR (z_if (Nat.ble 2 (.int x0 :: .ref a :: r).length && Nat.ble r.length 4) (z_if (Nat.ble (z_wd [.ref a, .int x0]) (z_ml 110) && z_ok nx a 10) (some (.inr (.inr (110, [.ref a, .int x0], L, r)))))) y pn (nx, fi, fl, fr) Q = _
  rw [z_le4_ble hr, h, show Nat.ble 2 (.int x0 :: .ref a :: r).length = true from by simp]; rfl
theorem zr_iv_111 {x0 : Int32} (h : z_ok nx a 10 = true) (hr : z_le4 r = true) : TR (z_st (.invokevirtual 111) n pc L (.int x0 :: .ref a :: r) (nx, fi, fl, fr)) y pn (nx, fi, fl, fr) Q = TT 111 0 [some (.ref a), some (.int x0)] [] (nx, fi, fl, fr) (fun v M1 => TT y pn L (v.toList ++ r) M1 Q) := by
  show TR (z_if (Nat.ble 2 (.int x0 :: .ref a :: r).length && Nat.ble r.length 4) (z_if (Nat.ble (z_wd [.ref a, .int x0]) (z_ml 111) && z_ok nx a 10) (some (.inr (.inr (111, [.ref a, .int x0], L, r)))))) y pn (nx, fi, fl, fr) Q = _
  rw [z_le4_ble hr, h, show Nat.ble 2 (.int x0 :: .ref a :: r).length = true from by simp]; rfl
theorem zr_iv_112 {x0 : Int32} (h : z_ok nx a 10 = true) (hr : z_le4 r = true) : TR (z_st (.invokevirtual 112) n pc L (.int x0 :: .ref a :: r) (nx, fi, fl, fr)) y pn (nx, fi, fl, fr) Q = TT 112 0 [some (.ref a), some (.int x0)] [] (nx, fi, fl, fr) (fun v M1 => TT y pn L (v.toList ++ r) M1 Q) := by
  show TR (z_if (Nat.ble 2 (.int x0 :: .ref a :: r).length && Nat.ble r.length 4) (z_if (Nat.ble (z_wd [.ref a, .int x0]) (z_ml 112) && z_ok nx a 10) (some (.inr (.inr (112, [.ref a, .int x0], L, r)))))) y pn (nx, fi, fl, fr) Q = _
  rw [z_le4_ble hr, h, show Nat.ble 2 (.int x0 :: .ref a :: r).length = true from by simp]; rfl
theorem zr_iv_113 {x0 : Int32} (h : z_ok nx a 10 = true) (hr : z_le4 r = true) : TR (z_st (.invokevirtual 113) n pc L (.int x0 :: .ref a :: r) (nx, fi, fl, fr)) y pn (nx, fi, fl, fr) Q = TT 113 0 [some (.ref a), some (.int x0)] [] (nx, fi, fl, fr) (fun v M1 => TT y pn L (v.toList ++ r) M1 Q) := by
  show TR (z_if (Nat.ble 2 (.int x0 :: .ref a :: r).length && Nat.ble r.length 4) (z_if (Nat.ble (z_wd [.ref a, .int x0]) (z_ml 113) && z_ok nx a 10) (some (.inr (.inr (113, [.ref a, .int x0], L, r)))))) y pn (nx, fi, fl, fr) Q = _
  rw [z_le4_ble hr, h, show Nat.ble 2 (.int x0 :: .ref a :: r).length = true from by simp]; rfl
theorem zr_iv_114  (h : z_ok nx a 10 = true) (hr : z_le4 r = true) : TR (z_st (.invokevirtual 114) n pc L (.ref a :: r) (nx, fi, fl, fr)) y pn (nx, fi, fl, fr) Q = TT 114 0 [some (.ref a), none, none, none, none] [] (nx, fi, fl, fr) (fun v M1 => TT y pn L (v.toList ++ r) M1 Q) := by
  show TR (z_if (Nat.ble 1 (.ref a :: r).length && Nat.ble r.length 4) (z_if (Nat.ble (z_wd [.ref a]) (z_ml 114) && z_ok nx a 10) (some (.inr (.inr (114, [.ref a], L, r)))))) y pn (nx, fi, fl, fr) Q = _
  rw [z_le4_ble hr, h, show Nat.ble 1 (.ref a :: r).length = true from by simp]; rfl
theorem zr_iv_115 {x0 : Int32} (hr : z_le4 r = true) : TR (z_st (.invokestatic 115) n pc L (.int x0 :: r) (nx, fi, fl, fr)) y pn (nx, fi, fl, fr) Q = TT 115 0 [some (.int x0)] [] (nx, fi, fl, fr) (fun v M1 => TT y pn L (v.toList ++ r) M1 Q) := by
  show TR (z_if (Nat.ble 1 (.int x0 :: r).length && Nat.ble r.length 4) (z_if (Nat.ble (z_wd [.int x0]) (z_ml 115)) (some (.inr (.inr (115, [.int x0], L, r)))))) y pn (nx, fi, fl, fr) Q = _
  rw [z_le4_ble hr, show Nat.ble 1 (.int x0 :: r).length = true from by simp]; rfl
theorem zr_iv_116 {x0 : Int32} (h : z_ok nx a 10 = true) (hr : z_le4 r = true) : TR (z_st (.invokevirtual 116) n pc L (.int x0 :: .ref a :: r) (nx, fi, fl, fr)) y pn (nx, fi, fl, fr) Q = TT 116 0 [some (.ref a), some (.int x0)] [] (nx, fi, fl, fr) (fun v M1 => TT y pn L (v.toList ++ r) M1 Q) := by
  show TR (z_if (Nat.ble 2 (.int x0 :: .ref a :: r).length && Nat.ble r.length 4) (z_if (Nat.ble (z_wd [.ref a, .int x0]) (z_ml 116) && z_ok nx a 10) (some (.inr (.inr (116, [.ref a, .int x0], L, r)))))) y pn (nx, fi, fl, fr) Q = _
  rw [z_le4_ble hr, h, show Nat.ble 2 (.int x0 :: .ref a :: r).length = true from by simp]; rfl
theorem zr_iv_117 {x0 : Int32} {x1 : Int32} (h : z_ok nx a 10 = true) (hr : z_le4 r = true) : TR (z_st (.invokevirtual 117) n pc L (.int x1 :: .int x0 :: .ref a :: r) (nx, fi, fl, fr)) y pn (nx, fi, fl, fr) Q = TT 117 0 [some (.ref a), some (.int x0), some (.int x1)] [] (nx, fi, fl, fr) (fun v M1 => TT y pn L (v.toList ++ r) M1 Q) := by
  show TR (z_if (Nat.ble 3 (.int x1 :: .int x0 :: .ref a :: r).length && Nat.ble r.length 4) (z_if (Nat.ble (z_wd [.ref a, .int x0, .int x1]) (z_ml 117) && z_ok nx a 10) (some (.inr (.inr (117, [.ref a, .int x0, .int x1], L, r)))))) y pn (nx, fi, fl, fr) Q = _
  rw [z_le4_ble hr, h, show Nat.ble 3 (.int x1 :: .int x0 :: .ref a :: r).length = true from by simp]; rfl
theorem zr_iv_118 {x0 : Int32} (h : z_ok nx a 10 = true) (hr : z_le4 r = true) : TR (z_st (.invokevirtual 118) n pc L (.int x0 :: .ref a :: r) (nx, fi, fl, fr)) y pn (nx, fi, fl, fr) Q = TT 118 0 [some (.ref a), some (.int x0)] [] (nx, fi, fl, fr) (fun v M1 => TT y pn L (v.toList ++ r) M1 Q) := by
  show TR (z_if (Nat.ble 2 (.int x0 :: .ref a :: r).length && Nat.ble r.length 4) (z_if (Nat.ble (z_wd [.ref a, .int x0]) (z_ml 118) && z_ok nx a 10) (some (.inr (.inr (118, [.ref a, .int x0], L, r)))))) y pn (nx, fi, fl, fr) Q = _
  rw [z_le4_ble hr, h, show Nat.ble 2 (.int x0 :: .ref a :: r).length = true from by simp]; rfl
theorem zr_iv_119 {x0 : Int32} {x1 : Int32} (hr : z_le4 r = true) : TR (z_st (.invokestatic 119) n pc L (.int x1 :: .int x0 :: r) (nx, fi, fl, fr)) y pn (nx, fi, fl, fr) Q = TT 119 0 [some (.int x0), some (.int x1)] [] (nx, fi, fl, fr) (fun v M1 => TT y pn L (v.toList ++ r) M1 Q) := by
  show TR (z_if (Nat.ble 2 (.int x1 :: .int x0 :: r).length && Nat.ble r.length 4) (z_if (Nat.ble (z_wd [.int x0, .int x1]) (z_ml 119)) (some (.inr (.inr (119, [.int x0, .int x1], L, r)))))) y pn (nx, fi, fl, fr) Q = _
  rw [z_le4_ble hr, show Nat.ble 2 (.int x1 :: .int x0 :: r).length = true from by simp]; rfl
theorem zr_iv_120 {x0 : Int32} {x1 : Int32} {x2 : Int32} (hr : z_le4 r = true) : TR (z_st (.invokestatic 120) n pc L (.int x2 :: .int x1 :: .int x0 :: r) (nx, fi, fl, fr)) y pn (nx, fi, fl, fr) Q = TT 120 0 [some (.int x0), some (.int x1), some (.int x2), none] [] (nx, fi, fl, fr) (fun v M1 => TT y pn L (v.toList ++ r) M1 Q) := by
  show TR (z_if (Nat.ble 3 (.int x2 :: .int x1 :: .int x0 :: r).length && Nat.ble r.length 4) (z_if (Nat.ble (z_wd [.int x0, .int x1, .int x2]) (z_ml 120)) (some (.inr (.inr (120, [.int x0, .int x1, .int x2], L, r)))))) y pn (nx, fi, fl, fr) Q = _
  rw [z_le4_ble hr, show Nat.ble 3 (.int x2 :: .int x1 :: .int x0 :: r).length = true from by simp]; rfl
theorem zr_iv_121 {x0 : Int32} {x1 : Int32} (hr : z_le4 r = true) : TR (z_st (.invokestatic 121) n pc L (.int x1 :: .int x0 :: r) (nx, fi, fl, fr)) y pn (nx, fi, fl, fr) Q = TT 121 0 [some (.int x0), some (.int x1)] [] (nx, fi, fl, fr) (fun v M1 => TT y pn L (v.toList ++ r) M1 Q) := by
  show TR (z_if (Nat.ble 2 (.int x1 :: .int x0 :: r).length && Nat.ble r.length 4) (z_if (Nat.ble (z_wd [.int x0, .int x1]) (z_ml 121)) (some (.inr (.inr (121, [.int x0, .int x1], L, r)))))) y pn (nx, fi, fl, fr) Q = _
  rw [z_le4_ble hr, show Nat.ble 2 (.int x1 :: .int x0 :: r).length = true from by simp]; rfl
theorem zr_iv_122 {x0 : Nat} {x1 : Int32} (hr : z_le4 r = true) : TR (z_st (.invokestatic 122) n pc L (.int x1 :: .ref x0 :: r) (nx, fi, fl, fr)) y pn (nx, fi, fl, fr) Q = TT 122 0 [some (.ref x0), some (.int x1)] [] (nx, fi, fl, fr) (fun v M1 => TT y pn L (v.toList ++ r) M1 Q) := by
  show TR (z_if (Nat.ble 2 (.int x1 :: .ref x0 :: r).length && Nat.ble r.length 4) (z_if (Nat.ble (z_wd [.ref x0, .int x1]) (z_ml 122)) (some (.inr (.inr (122, [.ref x0, .int x1], L, r)))))) y pn (nx, fi, fl, fr) Q = _
  rw [z_le4_ble hr, show Nat.ble 2 (.int x1 :: .ref x0 :: r).length = true from by simp]; rfl
theorem zr_iv_123 {x0 : Int32} (h : z_ok nx a 10 = true) (hr : z_le4 r = true) : TR (z_st (.invokevirtual 123) n pc L (.int x0 :: .ref a :: r) (nx, fi, fl, fr)) y pn (nx, fi, fl, fr) Q = TT 123 0 [some (.ref a), some (.int x0)] [] (nx, fi, fl, fr) (fun v M1 => TT y pn L (v.toList ++ r) M1 Q) := by
  show TR (z_if (Nat.ble 2 (.int x0 :: .ref a :: r).length && Nat.ble r.length 4) (z_if (Nat.ble (z_wd [.ref a, .int x0]) (z_ml 123) && z_ok nx a 10) (some (.inr (.inr (123, [.ref a, .int x0], L, r)))))) y pn (nx, fi, fl, fr) Q = _
  rw [z_le4_ble hr, h, show Nat.ble 2 (.int x0 :: .ref a :: r).length = true from by simp]; rfl
theorem zr_iv_124 {x0 : Int32} (h : z_ok nx a 10 = true) (hr : z_le4 r = true) : TR (z_st (.invokevirtual 124) n pc L (.int x0 :: .ref a :: r) (nx, fi, fl, fr)) y pn (nx, fi, fl, fr) Q = TT 124 0 [some (.ref a), some (.int x0)] [] (nx, fi, fl, fr) (fun v M1 => TT y pn L (v.toList ++ r) M1 Q) := by
  show TR (z_if (Nat.ble 2 (.int x0 :: .ref a :: r).length && Nat.ble r.length 4) (z_if (Nat.ble (z_wd [.ref a, .int x0]) (z_ml 124) && z_ok nx a 10) (some (.inr (.inr (124, [.ref a, .int x0], L, r)))))) y pn (nx, fi, fl, fr) Q = _
  rw [z_le4_ble hr, h, show Nat.ble 2 (.int x0 :: .ref a :: r).length = true from by simp]; rfl
theorem zr_iv_125  (h : z_ok nx a 11 = true) (hr : z_le4 r = true) : TR (z_st (.invokespecial 125) n pc L (.ref a :: r) (nx, fi, fl, fr)) y pn (nx, fi, fl, fr) Q = TT 125 0 [some (.ref a)] [] (nx, fi, fl, fr) (fun v M1 => TT y pn L (v.toList ++ r) M1 Q) := by
  show TR (z_if (Nat.ble 1 (.ref a :: r).length && Nat.ble r.length 4) (z_if (Nat.ble (z_wd [.ref a]) (z_ml 125) && z_ok nx a 11) (some (.inr (.inr (125, [.ref a], L, r)))))) y pn (nx, fi, fl, fr) Q = _
  rw [z_le4_ble hr, h, show Nat.ble 1 (.ref a :: r).length = true from by simp]; rfl
theorem zr_iv_126 {x0 : Int64} {x1 : Int32} (h : z_ok nx a 11 = true) (hr : z_le4 r = true) : TR (z_st (.invokevirtual 126) n pc L (.int x1 :: .long x0 :: .ref a :: r) (nx, fi, fl, fr)) y pn (nx, fi, fl, fr) Q = TT 126 0 [some (.ref a), some (.long x0), none, some (.int x1), none] [] (nx, fi, fl, fr) (fun v M1 => TT y pn L (v.toList ++ r) M1 Q) := by
  show TR (z_if (Nat.ble 3 (.int x1 :: .long x0 :: .ref a :: r).length && Nat.ble r.length 4) (z_if (Nat.ble (z_wd [.ref a, .long x0, .int x1]) (z_ml 126) && z_ok nx a 11) (some (.inr (.inr (126, [.ref a, .long x0, .int x1], L, r)))))) y pn (nx, fi, fl, fr) Q = _
  rw [z_le4_ble hr, h, show Nat.ble 3 (.int x1 :: .long x0 :: .ref a :: r).length = true from by simp]; rfl
theorem zr_iv_127  (h : z_ok nx a 11 = true) (hr : z_le4 r = true) : TR (z_st (.invokevirtual 127) n pc L (.ref a :: r) (nx, fi, fl, fr)) y pn (nx, fi, fl, fr) Q = TT 127 0 [some (.ref a), none] [] (nx, fi, fl, fr) (fun v M1 => TT y pn L (v.toList ++ r) M1 Q) := by
  show TR (z_if (Nat.ble 1 (.ref a :: r).length && Nat.ble r.length 4) (z_if (Nat.ble (z_wd [.ref a]) (z_ml 127) && z_ok nx a 11) (some (.inr (.inr (127, [.ref a], L, r)))))) y pn (nx, fi, fl, fr) Q = _
  rw [z_le4_ble hr, h, show Nat.ble 1 (.ref a :: r).length = true from by simp]; rfl
theorem zr_iv_128  (h : z_ok nx a 11 = true) (hr : z_le4 r = true) : TR (z_st (.invokevirtual 128) n pc L (.ref a :: r) (nx, fi, fl, fr)) y pn (nx, fi, fl, fr) Q = TT 128 0 [some (.ref a), none, none, none] [] (nx, fi, fl, fr) (fun v M1 => TT y pn L (v.toList ++ r) M1 Q) := by
  show TR (z_if (Nat.ble 1 (.ref a :: r).length && Nat.ble r.length 4) (z_if (Nat.ble (z_wd [.ref a]) (z_ml 128) && z_ok nx a 11) (some (.inr (.inr (128, [.ref a], L, r)))))) y pn (nx, fi, fl, fr) Q = _
  rw [z_le4_ble hr, h, show Nat.ble 1 (.ref a :: r).length = true from by simp]; rfl
theorem zr_iv_129  (h : z_ok nx a 11 = true) (hr : z_le4 r = true) : TR (z_st (.invokevirtual 129) n pc L (.ref a :: r) (nx, fi, fl, fr)) y pn (nx, fi, fl, fr) Q = TT 129 0 [some (.ref a), none, none] [] (nx, fi, fl, fr) (fun v M1 => TT y pn L (v.toList ++ r) M1 Q) := by
  show TR (z_if (Nat.ble 1 (.ref a :: r).length && Nat.ble r.length 4) (z_if (Nat.ble (z_wd [.ref a]) (z_ml 129) && z_ok nx a 11) (some (.inr (.inr (129, [.ref a], L, r)))))) y pn (nx, fi, fl, fr) Q = _
  rw [z_le4_ble hr, h, show Nat.ble 1 (.ref a :: r).length = true from by simp]; rfl
theorem zr_iv_130  (h : z_ok nx a 11 = true) (hr : z_le4 r = true) : TR (z_st (.invokevirtual 130) n pc L (.ref a :: r) (nx, fi, fl, fr)) y pn (nx, fi, fl, fr) Q = TT 130 0 [some (.ref a), none, none, none] [] (nx, fi, fl, fr) (fun v M1 => TT y pn L (v.toList ++ r) M1 Q) := by
  show TR (z_if (Nat.ble 1 (.ref a :: r).length && Nat.ble r.length 4) (z_if (Nat.ble (z_wd [.ref a]) (z_ml 130) && z_ok nx a 11) (some (.inr (.inr (130, [.ref a], L, r)))))) y pn (nx, fi, fl, fr) Q = _
  rw [z_le4_ble hr, h, show Nat.ble 1 (.ref a :: r).length = true from by simp]; rfl
theorem zr_iv_131  (h : z_ok nx a 11 = true) (hr : z_le4 r = true) : TR (z_st (.invokevirtual 131) n pc L (.ref a :: r) (nx, fi, fl, fr)) y pn (nx, fi, fl, fr) Q = TT 131 0 [some (.ref a)] [] (nx, fi, fl, fr) (fun v M1 => TT y pn L (v.toList ++ r) M1 Q) := by
  show TR (z_if (Nat.ble 1 (.ref a :: r).length && Nat.ble r.length 4) (z_if (Nat.ble (z_wd [.ref a]) (z_ml 131) && z_ok nx a 11) (some (.inr (.inr (131, [.ref a], L, r)))))) y pn (nx, fi, fl, fr) Q = _
  rw [z_le4_ble hr, h, show Nat.ble 1 (.ref a :: r).length = true from by simp]; rfl
theorem zr_iv_132  (h : z_ok nx a 11 = true) (hr : z_le4 r = true) : TR (z_st (.invokevirtual 132) n pc L (.ref a :: r) (nx, fi, fl, fr)) y pn (nx, fi, fl, fr) Q = TT 132 0 [some (.ref a)] [] (nx, fi, fl, fr) (fun v M1 => TT y pn L (v.toList ++ r) M1 Q) := by
  show TR (z_if (Nat.ble 1 (.ref a :: r).length && Nat.ble r.length 4) (z_if (Nat.ble (z_wd [.ref a]) (z_ml 132) && z_ok nx a 11) (some (.inr (.inr (132, [.ref a], L, r)))))) y pn (nx, fi, fl, fr) Q = _
  rw [z_le4_ble hr, h, show Nat.ble 1 (.ref a :: r).length = true from by simp]; rfl
theorem zr_iv_133 {x0 : Int32} {x1 : Int32} (h : z_ok nx a 11 = true) (hr : z_le4 r = true) : TR (z_st (.invokevirtual 133) n pc L (.int x1 :: .int x0 :: .ref a :: r) (nx, fi, fl, fr)) y pn (nx, fi, fl, fr) Q = TT 133 0 [some (.ref a), some (.int x0), some (.int x1), none] [] (nx, fi, fl, fr) (fun v M1 => TT y pn L (v.toList ++ r) M1 Q) := by
  show TR (z_if (Nat.ble 3 (.int x1 :: .int x0 :: .ref a :: r).length && Nat.ble r.length 4) (z_if (Nat.ble (z_wd [.ref a, .int x0, .int x1]) (z_ml 133) && z_ok nx a 11) (some (.inr (.inr (133, [.ref a, .int x0, .int x1], L, r)))))) y pn (nx, fi, fl, fr) Q = _
  rw [z_le4_ble hr, h, show Nat.ble 3 (.int x1 :: .int x0 :: .ref a :: r).length = true from by simp]; rfl
theorem zr_iv_134 {x0 : Nat} {x1 : Int32} (h : z_ok nx a 11 = true) (hr : z_le4 r = true) : TR (z_st (.invokevirtual 134) n pc L (.int x1 :: .ref x0 :: .ref a :: r) (nx, fi, fl, fr)) y pn (nx, fi, fl, fr) Q = TT 134 0 [some (.ref a), some (.ref x0), some (.int x1), none] [] (nx, fi, fl, fr) (fun v M1 => TT y pn L (v.toList ++ r) M1 Q) := by
  show TR (z_if (Nat.ble 3 (.int x1 :: .ref x0 :: .ref a :: r).length && Nat.ble r.length 4) (z_if (Nat.ble (z_wd [.ref a, .ref x0, .int x1]) (z_ml 134) && z_ok nx a 11) (some (.inr (.inr (134, [.ref a, .ref x0, .int x1], L, r)))))) y pn (nx, fi, fl, fr) Q = _
  rw [z_le4_ble hr, h, show Nat.ble 3 (.int x1 :: .ref x0 :: .ref a :: r).length = true from by simp]; rfl
theorem zr_iv_135 {x0 : Int32} (h : z_ok nx a 11 = true) (hr : z_le4 r = true) : TR (z_st (.invokevirtual 135) n pc L (.int x0 :: .ref a :: r) (nx, fi, fl, fr)) y pn (nx, fi, fl, fr) Q = TT 135 0 [some (.ref a), some (.int x0)] [] (nx, fi, fl, fr) (fun v M1 => TT y pn L (v.toList ++ r) M1 Q) := by
  show TR (z_if (Nat.ble 2 (.int x0 :: .ref a :: r).length && Nat.ble r.length 4) (z_if (Nat.ble (z_wd [.ref a, .int x0]) (z_ml 135) && z_ok nx a 11) (some (.inr (.inr (135, [.ref a, .int x0], L, r)))))) y pn (nx, fi, fl, fr) Q = _
  rw [z_le4_ble hr, h, show Nat.ble 2 (.int x0 :: .ref a :: r).length = true from by simp]; rfl
theorem zr_iv_136 {x0 : Int32} {x1 : Nat} (h : z_ok nx a 11 = true) (hr : z_le4 r = true) : TR (z_st (.invokevirtual 136) n pc L (.ref x1 :: .int x0 :: .ref a :: r) (nx, fi, fl, fr)) y pn (nx, fi, fl, fr) Q = TT 136 0 [some (.ref a), some (.int x0), some (.ref x1), none] [] (nx, fi, fl, fr) (fun v M1 => TT y pn L (v.toList ++ r) M1 Q) := by
  show TR (z_if (Nat.ble 3 (.ref x1 :: .int x0 :: .ref a :: r).length && Nat.ble r.length 4) (z_if (Nat.ble (z_wd [.ref a, .int x0, .ref x1]) (z_ml 136) && z_ok nx a 11) (some (.inr (.inr (136, [.ref a, .int x0, .ref x1], L, r)))))) y pn (nx, fi, fl, fr) Q = _
  rw [z_le4_ble hr, h, show Nat.ble 3 (.ref x1 :: .int x0 :: .ref a :: r).length = true from by simp]; rfl
theorem zr_iv_137 {x0 : Nat} (h : z_ok nx a 12 = true) (hr : z_le4 r = true) : TR (z_st (.invokespecial 137) n pc L (.ref x0 :: .ref a :: r) (nx, fi, fl, fr)) y pn (nx, fi, fl, fr) Q = TT 137 0 [some (.ref a), some (.ref x0)] [] (nx, fi, fl, fr) (fun v M1 => TT y pn L (v.toList ++ r) M1 Q) := by
  show TR (z_if (Nat.ble 2 (.ref x0 :: .ref a :: r).length && Nat.ble r.length 4) (z_if (Nat.ble (z_wd [.ref a, .ref x0]) (z_ml 137) && z_ok nx a 12) (some (.inr (.inr (137, [.ref a, .ref x0], L, r)))))) y pn (nx, fi, fl, fr) Q = _
  rw [z_le4_ble hr, h, show Nat.ble 2 (.ref x0 :: .ref a :: r).length = true from by simp]; rfl
theorem zr_iv_138 {x0 : Int32} (h : z_ok nx a 12 = true) (hr : z_le4 r = true) : TR (z_st (.invokevirtual 138) n pc L (.int x0 :: .ref a :: r) (nx, fi, fl, fr)) y pn (nx, fi, fl, fr) Q = TT 138 0 [some (.ref a), some (.int x0), none, none] [] (nx, fi, fl, fr) (fun v M1 => TT y pn L (v.toList ++ r) M1 Q) := by
  show TR (z_if (Nat.ble 2 (.int x0 :: .ref a :: r).length && Nat.ble r.length 4) (z_if (Nat.ble (z_wd [.ref a, .int x0]) (z_ml 138) && z_ok nx a 12) (some (.inr (.inr (138, [.ref a, .int x0], L, r)))))) y pn (nx, fi, fl, fr) Q = _
  rw [z_le4_ble hr, h, show Nat.ble 2 (.int x0 :: .ref a :: r).length = true from by simp]; rfl
theorem zr_iv_139 {x0 : Int32} (h : z_ok nx a 12 = true) (hr : z_le4 r = true) : TR (z_st (.invokevirtual 139) n pc L (.int x0 :: .ref a :: r) (nx, fi, fl, fr)) y pn (nx, fi, fl, fr) Q = TT 139 0 [some (.ref a), some (.int x0)] [] (nx, fi, fl, fr) (fun v M1 => TT y pn L (v.toList ++ r) M1 Q) := by
  show TR (z_if (Nat.ble 2 (.int x0 :: .ref a :: r).length && Nat.ble r.length 4) (z_if (Nat.ble (z_wd [.ref a, .int x0]) (z_ml 139) && z_ok nx a 12) (some (.inr (.inr (139, [.ref a, .int x0], L, r)))))) y pn (nx, fi, fl, fr) Q = _
  rw [z_le4_ble hr, h, show Nat.ble 2 (.int x0 :: .ref a :: r).length = true from by simp]; rfl
theorem zr_iv_140 {x0 : Int32} (h : z_ok nx a 12 = true) (hr : z_le4 r = true) : TR (z_st (.invokevirtual 140) n pc L (.int x0 :: .ref a :: r) (nx, fi, fl, fr)) y pn (nx, fi, fl, fr) Q = TT 140 0 [some (.ref a), some (.int x0)] [] (nx, fi, fl, fr) (fun v M1 => TT y pn L (v.toList ++ r) M1 Q) := by
  show TR (z_if (Nat.ble 2 (.int x0 :: .ref a :: r).length && Nat.ble r.length 4) (z_if (Nat.ble (z_wd [.ref a, .int x0]) (z_ml 140) && z_ok nx a 12) (some (.inr (.inr (140, [.ref a, .int x0], L, r)))))) y pn (nx, fi, fl, fr) Q = _
  rw [z_le4_ble hr, h, show Nat.ble 2 (.int x0 :: .ref a :: r).length = true from by simp]; rfl
theorem zr_iv_141 {x0 : Int32} {x1 : Int32} {x2 : Int32} (h : z_ok nx a 12 = true) (hr : z_le4 r = true) : TR (z_st (.invokevirtual 141) n pc L (.int x2 :: .int x1 :: .int x0 :: .ref a :: r) (nx, fi, fl, fr)) y pn (nx, fi, fl, fr) Q = TT 141 0 [some (.ref a), some (.int x0), some (.int x1), some (.int x2), none] [] (nx, fi, fl, fr) (fun v M1 => TT y pn L (v.toList ++ r) M1 Q) := by
  show TR (z_if (Nat.ble 4 (.int x2 :: .int x1 :: .int x0 :: .ref a :: r).length && Nat.ble r.length 4) (z_if (Nat.ble (z_wd [.ref a, .int x0, .int x1, .int x2]) (z_ml 141) && z_ok nx a 12) (some (.inr (.inr (141, [.ref a, .int x0, .int x1, .int x2], L, r)))))) y pn (nx, fi, fl, fr) Q = _
  rw [z_le4_ble hr, h, show Nat.ble 4 (.int x2 :: .int x1 :: .int x0 :: .ref a :: r).length = true from by simp]; rfl
theorem zr_iv_142 {x0 : Int32} (h : z_ok nx a 12 = true) (hr : z_le4 r = true) : TR (z_st (.invokevirtual 142) n pc L (.int x0 :: .ref a :: r) (nx, fi, fl, fr)) y pn (nx, fi, fl, fr) Q = TT 142 0 [some (.ref a), some (.int x0)] [] (nx, fi, fl, fr) (fun v M1 => TT y pn L (v.toList ++ r) M1 Q) := by
  show TR (z_if (Nat.ble 2 (.int x0 :: .ref a :: r).length && Nat.ble r.length 4) (z_if (Nat.ble (z_wd [.ref a, .int x0]) (z_ml 142) && z_ok nx a 12) (some (.inr (.inr (142, [.ref a, .int x0], L, r)))))) y pn (nx, fi, fl, fr) Q = _
  rw [z_le4_ble hr, h, show Nat.ble 2 (.int x0 :: .ref a :: r).length = true from by simp]; rfl
theorem zr_iv_143 {x0 : Int32} (h : z_ok nx a 12 = true) (hr : z_le4 r = true) : TR (z_st (.invokevirtual 143) n pc L (.int x0 :: .ref a :: r) (nx, fi, fl, fr)) y pn (nx, fi, fl, fr) Q = TT 143 0 [some (.ref a), some (.int x0), none, none, none] [] (nx, fi, fl, fr) (fun v M1 => TT y pn L (v.toList ++ r) M1 Q) := by
  show TR (z_if (Nat.ble 2 (.int x0 :: .ref a :: r).length && Nat.ble r.length 4) (z_if (Nat.ble (z_wd [.ref a, .int x0]) (z_ml 143) && z_ok nx a 12) (some (.inr (.inr (143, [.ref a, .int x0], L, r)))))) y pn (nx, fi, fl, fr) Q = _
  rw [z_le4_ble hr, h, show Nat.ble 2 (.int x0 :: .ref a :: r).length = true from by simp]; rfl
theorem zr_iv_144 {x0 : Int32} (h : z_ok nx a 12 = true) (hr : z_le4 r = true) : TR (z_st (.invokevirtual 144) n pc L (.int x0 :: .ref a :: r) (nx, fi, fl, fr)) y pn (nx, fi, fl, fr) Q = TT 144 0 [some (.ref a), some (.int x0), none, none, none, none, none] [] (nx, fi, fl, fr) (fun v M1 => TT y pn L (v.toList ++ r) M1 Q) := by
  show TR (z_if (Nat.ble 2 (.int x0 :: .ref a :: r).length && Nat.ble r.length 4) (z_if (Nat.ble (z_wd [.ref a, .int x0]) (z_ml 144) && z_ok nx a 12) (some (.inr (.inr (144, [.ref a, .int x0], L, r)))))) y pn (nx, fi, fl, fr) Q = _
  rw [z_le4_ble hr, h, show Nat.ble 2 (.int x0 :: .ref a :: r).length = true from by simp]; rfl
theorem zr_iv_145 {x0 : Int32} {x1 : Int32} (h : z_ok nx a 12 = true) (hr : z_le4 r = true) : TR (z_st (.invokevirtual 145) n pc L (.int x1 :: .int x0 :: .ref a :: r) (nx, fi, fl, fr)) y pn (nx, fi, fl, fr) Q = TT 145 0 [some (.ref a), some (.int x0), some (.int x1), none] [] (nx, fi, fl, fr) (fun v M1 => TT y pn L (v.toList ++ r) M1 Q) := by
  show TR (z_if (Nat.ble 3 (.int x1 :: .int x0 :: .ref a :: r).length && Nat.ble r.length 4) (z_if (Nat.ble (z_wd [.ref a, .int x0, .int x1]) (z_ml 145) && z_ok nx a 12) (some (.inr (.inr (145, [.ref a, .int x0, .int x1], L, r)))))) y pn (nx, fi, fl, fr) Q = _
  rw [z_le4_ble hr, h, show Nat.ble 3 (.int x1 :: .int x0 :: .ref a :: r).length = true from by simp]; rfl
theorem zr_iv_146 {x0 : Int32} {x1 : Int32} {x2 : Int32} (h : z_ok nx a 12 = true) (hr : z_le4 r = true) : TR (z_st (.invokevirtual 146) n pc L (.int x2 :: .int x1 :: .int x0 :: .ref a :: r) (nx, fi, fl, fr)) y pn (nx, fi, fl, fr) Q = TT 146 0 [some (.ref a), some (.int x0), some (.int x1), some (.int x2), none] [] (nx, fi, fl, fr) (fun v M1 => TT y pn L (v.toList ++ r) M1 Q) := by
  show TR (z_if (Nat.ble 4 (.int x2 :: .int x1 :: .int x0 :: .ref a :: r).length && Nat.ble r.length 4) (z_if (Nat.ble (z_wd [.ref a, .int x0, .int x1, .int x2]) (z_ml 146) && z_ok nx a 12) (some (.inr (.inr (146, [.ref a, .int x0, .int x1, .int x2], L, r)))))) y pn (nx, fi, fl, fr) Q = _
  rw [z_le4_ble hr, h, show Nat.ble 4 (.int x2 :: .int x1 :: .int x0 :: .ref a :: r).length = true from by simp]; rfl
theorem zr_iv_147 {x0 : Int32} (h : z_ok nx a 12 = true) (hr : z_le4 r = true) : TR (z_st (.invokevirtual 147) n pc L (.int x0 :: .ref a :: r) (nx, fi, fl, fr)) y pn (nx, fi, fl, fr) Q = TT 147 0 [some (.ref a), some (.int x0)] [] (nx, fi, fl, fr) (fun v M1 => TT y pn L (v.toList ++ r) M1 Q) := by
  show TR (z_if (Nat.ble 2 (.int x0 :: .ref a :: r).length && Nat.ble r.length 4) (z_if (Nat.ble (z_wd [.ref a, .int x0]) (z_ml 147) && z_ok nx a 12) (some (.inr (.inr (147, [.ref a, .int x0], L, r)))))) y pn (nx, fi, fl, fr) Q = _
  rw [z_le4_ble hr, h, show Nat.ble 2 (.int x0 :: .ref a :: r).length = true from by simp]; rfl
theorem zr_iv_148 {x0 : Int32} (h : z_ok nx a 12 = true) (hr : z_le4 r = true) : TR (z_st (.invokevirtual 148) n pc L (.int x0 :: .ref a :: r) (nx, fi, fl, fr)) y pn (nx, fi, fl, fr) Q = TT 148 0 [some (.ref a), some (.int x0)] [] (nx, fi, fl, fr) (fun v M1 => TT y pn L (v.toList ++ r) M1 Q) := by
  show TR (z_if (Nat.ble 2 (.int x0 :: .ref a :: r).length && Nat.ble r.length 4) (z_if (Nat.ble (z_wd [.ref a, .int x0]) (z_ml 148) && z_ok nx a 12) (some (.inr (.inr (148, [.ref a, .int x0], L, r)))))) y pn (nx, fi, fl, fr) Q = _
  rw [z_le4_ble hr, h, show Nat.ble 2 (.int x0 :: .ref a :: r).length = true from by simp]; rfl
theorem zr_iv_149  (h : z_ok nx a 13 = true) (hr : z_le4 r = true) : TR (z_st (.invokespecial 149) n pc L (.ref a :: r) (nx, fi, fl, fr)) y pn (nx, fi, fl, fr) Q = TT 149 0 [some (.ref a)] [] (nx, fi, fl, fr) (fun v M1 => TT y pn L (v.toList ++ r) M1 Q) := by
  show TR (z_if (Nat.ble 1 (.ref a :: r).length && Nat.ble r.length 4) (z_if (Nat.ble (z_wd [.ref a]) (z_ml 149) && z_ok nx a 13) (some (.inr (.inr (149, [.ref a], L, r)))))) y pn (nx, fi, fl, fr) Q = _
  rw [z_le4_ble hr, h, show Nat.ble 1 (.ref a :: r).length = true from by simp]; rfl
theorem zr_iv_150 {x0 : Int32} {x1 : Int32} {x2 : Int32} {x3 : Int32} (h : z_ok nx a 13 = true) (hr : z_le4 r = true) : TR (z_st (.invokevirtual 150) n pc L (.int x3 :: .int x2 :: .int x1 :: .int x0 :: .ref a :: r) (nx, fi, fl, fr)) y pn (nx, fi, fl, fr) Q = TT 150 0 [some (.ref a), some (.int x0), some (.int x1), some (.int x2), some (.int x3)] [] (nx, fi, fl, fr) (fun v M1 => TT y pn L (v.toList ++ r) M1 Q) := by
  show TR (z_if (Nat.ble 5 (.int x3 :: .int x2 :: .int x1 :: .int x0 :: .ref a :: r).length && Nat.ble r.length 4) (z_if (Nat.ble (z_wd [.ref a, .int x0, .int x1, .int x2, .int x3]) (z_ml 150) && z_ok nx a 13) (some (.inr (.inr (150, [.ref a, .int x0, .int x1, .int x2, .int x3], L, r)))))) y pn (nx, fi, fl, fr) Q = _
  rw [z_le4_ble hr, h, show Nat.ble 5 (.int x3 :: .int x2 :: .int x1 :: .int x0 :: .ref a :: r).length = true from by simp]; rfl
theorem zr_iv_151 {x0 : Nat} (h : z_ok nx a 13 = true) (hr : z_le4 r = true) : TR (z_st (.invokevirtual 151) n pc L (.ref x0 :: .ref a :: r) (nx, fi, fl, fr)) y pn (nx, fi, fl, fr) Q = TT 151 0 [some (.ref a), some (.ref x0)] [] (nx, fi, fl, fr) (fun v M1 => TT y pn L (v.toList ++ r) M1 Q) := by
  show TR (z_if (Nat.ble 2 (.ref x0 :: .ref a :: r).length && Nat.ble r.length 4) (z_if (Nat.ble (z_wd [.ref a, .ref x0]) (z_ml 151) && z_ok nx a 13) (some (.inr (.inr (151, [.ref a, .ref x0], L, r)))))) y pn (nx, fi, fl, fr) Q = _
  rw [z_le4_ble hr, h, show Nat.ble 2 (.ref x0 :: .ref a :: r).length = true from by simp]; rfl
theorem zr_iv_152  (h : z_ok nx a 13 = true) (hr : z_le4 r = true) : TR (z_st (.invokevirtual 152) n pc L (.ref a :: r) (nx, fi, fl, fr)) y pn (nx, fi, fl, fr) Q = TT 152 0 [some (.ref a), none, none] [] (nx, fi, fl, fr) (fun v M1 => TT y pn L (v.toList ++ r) M1 Q) := by
  show TR (z_if (Nat.ble 1 (.ref a :: r).length && Nat.ble r.length 4) (z_if (Nat.ble (z_wd [.ref a]) (z_ml 152) && z_ok nx a 13) (some (.inr (.inr (152, [.ref a], L, r)))))) y pn (nx, fi, fl, fr) Q = _
  rw [z_le4_ble hr, h, show Nat.ble 1 (.ref a :: r).length = true from by simp]; rfl
theorem zr_iv_153 {x0 : Int32} (h : z_ok nx a 13 = true) (hr : z_le4 r = true) : TR (z_st (.invokevirtual 153) n pc L (.int x0 :: .ref a :: r) (nx, fi, fl, fr)) y pn (nx, fi, fl, fr) Q = TT 153 0 [some (.ref a), some (.int x0)] [] (nx, fi, fl, fr) (fun v M1 => TT y pn L (v.toList ++ r) M1 Q) := by
  show TR (z_if (Nat.ble 2 (.int x0 :: .ref a :: r).length && Nat.ble r.length 4) (z_if (Nat.ble (z_wd [.ref a, .int x0]) (z_ml 153) && z_ok nx a 13) (some (.inr (.inr (153, [.ref a, .int x0], L, r)))))) y pn (nx, fi, fl, fr) Q = _
  rw [z_le4_ble hr, h, show Nat.ble 2 (.int x0 :: .ref a :: r).length = true from by simp]; rfl
theorem zr_iv_154 {x0 : Int32} (h : z_ok nx a 13 = true) (hr : z_le4 r = true) : TR (z_st (.invokevirtual 154) n pc L (.int x0 :: .ref a :: r) (nx, fi, fl, fr)) y pn (nx, fi, fl, fr) Q = TT 154 0 [some (.ref a), some (.int x0)] [] (nx, fi, fl, fr) (fun v M1 => TT y pn L (v.toList ++ r) M1 Q) := by
  show TR (z_if (Nat.ble 2 (.int x0 :: .ref a :: r).length && Nat.ble r.length 4) (z_if (Nat.ble (z_wd [.ref a, .int x0]) (z_ml 154) && z_ok nx a 13) (some (.inr (.inr (154, [.ref a, .int x0], L, r)))))) y pn (nx, fi, fl, fr) Q = _
  rw [z_le4_ble hr, h, show Nat.ble 2 (.int x0 :: .ref a :: r).length = true from by simp]; rfl
theorem zr_iv_155 {x0 : Int32} {x1 : Int32} (h : z_ok nx a 13 = true) (hr : z_le4 r = true) : TR (z_st (.invokevirtual 155) n pc L (.int x1 :: .int x0 :: .ref a :: r) (nx, fi, fl, fr)) y pn (nx, fi, fl, fr) Q = TT 155 0 [some (.ref a), some (.int x0), some (.int x1)] [] (nx, fi, fl, fr) (fun v M1 => TT y pn L (v.toList ++ r) M1 Q) := by
  show TR (z_if (Nat.ble 3 (.int x1 :: .int x0 :: .ref a :: r).length && Nat.ble r.length 4) (z_if (Nat.ble (z_wd [.ref a, .int x0, .int x1]) (z_ml 155) && z_ok nx a 13) (some (.inr (.inr (155, [.ref a, .int x0, .int x1], L, r)))))) y pn (nx, fi, fl, fr) Q = _
  rw [z_le4_ble hr, h, show Nat.ble 3 (.int x1 :: .int x0 :: .ref a :: r).length = true from by simp]; rfl
theorem zr_iv_156 {x0 : Int32} {x1 : Int32} (h : z_ok nx a 13 = true) (hr : z_le4 r = true) : TR (z_st (.invokevirtual 156) n pc L (.int x1 :: .int x0 :: .ref a :: r) (nx, fi, fl, fr)) y pn (nx, fi, fl, fr) Q = TT 156 0 [some (.ref a), some (.int x0), some (.int x1)] [] (nx, fi, fl, fr) (fun v M1 => TT y pn L (v.toList ++ r) M1 Q) := by
  show TR (z_if (Nat.ble 3 (.int x1 :: .int x0 :: .ref a :: r).length && Nat.ble r.length 4) (z_if (Nat.ble (z_wd [.ref a, .int x0, .int x1]) (z_ml 156) && z_ok nx a 13) (some (.inr (.inr (156, [.ref a, .int x0, .int x1], L, r)))))) y pn (nx, fi, fl, fr) Q = _
  rw [z_le4_ble hr, h, show Nat.ble 3 (.int x1 :: .int x0 :: .ref a :: r).length = true from by simp]; rfl
theorem zr_iv_157  (h : z_ok nx a 13 = true) (hr : z_le4 r = true) : TR (z_st (.invokevirtual 157) n pc L (.ref a :: r) (nx, fi, fl, fr)) y pn (nx, fi, fl, fr) Q = TT 157 0 [some (.ref a)] [] (nx, fi, fl, fr) (fun v M1 => TT y pn L (v.toList ++ r) M1 Q) := by
  show TR (z_if (Nat.ble 1 (.ref a :: r).length && Nat.ble r.length 4) (z_if (Nat.ble (z_wd [.ref a]) (z_ml 157) && z_ok nx a 13) (some (.inr (.inr (157, [.ref a], L, r)))))) y pn (nx, fi, fl, fr) Q = _
  rw [z_le4_ble hr, h, show Nat.ble 1 (.ref a :: r).length = true from by simp]; rfl
theorem zr_iv_158 {x0 : Int32} (h : z_ok nx a 13 = true) (hr : z_le4 r = true) : TR (z_st (.invokevirtual 158) n pc L (.int x0 :: .ref a :: r) (nx, fi, fl, fr)) y pn (nx, fi, fl, fr) Q = TT 158 0 [some (.ref a), some (.int x0), none, none] [] (nx, fi, fl, fr) (fun v M1 => TT y pn L (v.toList ++ r) M1 Q) := by
  show TR (z_if (Nat.ble 2 (.int x0 :: .ref a :: r).length && Nat.ble r.length 4) (z_if (Nat.ble (z_wd [.ref a, .int x0]) (z_ml 158) && z_ok nx a 13) (some (.inr (.inr (158, [.ref a, .int x0], L, r)))))) y pn (nx, fi, fl, fr) Q = _
  rw [z_le4_ble hr, h, show Nat.ble 2 (.int x0 :: .ref a :: r).length = true from by simp]; rfl
theorem zr_iv_159 {x0 : Int32} (h : z_ok nx a 13 = true) (hr : z_le4 r = true) : TR (z_st (.invokevirtual 159) n pc L (.int x0 :: .ref a :: r) (nx, fi, fl, fr)) y pn (nx, fi, fl, fr) Q = TT 159 0 [some (.ref a), some (.int x0), none, none, none] [] (nx, fi, fl, fr) (fun v M1 => TT y pn L (v.toList ++ r) M1 Q) := by
  show TR (z_if (Nat.ble 2 (.int x0 :: .ref a :: r).length && Nat.ble r.length 4) (z_if (Nat.ble (z_wd [.ref a, .int x0]) (z_ml 159) && z_ok nx a 13) (some (.inr (.inr (159, [.ref a, .int x0], L, r)))))) y pn (nx, fi, fl, fr) Q = _
  rw [z_le4_ble hr, h, show Nat.ble 2 (.int x0 :: .ref a :: r).length = true from by simp]; rfl
theorem zr_iv_160 {x0 : Int64} (h : z_ok nx a 13 = true) (hr : z_le4 r = true) : TR (z_st (.invokevirtual 160) n pc L (.long x0 :: .ref a :: r) (nx, fi, fl, fr)) y pn (nx, fi, fl, fr) Q = TT 160 0 [some (.ref a), some (.long x0), none, none, none, none] [] (nx, fi, fl, fr) (fun v M1 => TT y pn L (v.toList ++ r) M1 Q) := by
  show TR (z_if (Nat.ble 2 (.long x0 :: .ref a :: r).length && Nat.ble r.length 4) (z_if (Nat.ble (z_wd [.ref a, .long x0]) (z_ml 160) && z_ok nx a 13) (some (.inr (.inr (160, [.ref a, .long x0], L, r)))))) y pn (nx, fi, fl, fr) Q = _
  rw [z_le4_ble hr, h, show Nat.ble 2 (.long x0 :: .ref a :: r).length = true from by simp]; rfl
theorem zr_iv_161  (h : z_ok nx a 14 = true) (hr : z_le4 r = true) : TR (z_st (.invokespecial 161) n pc L (.ref a :: r) (nx, fi, fl, fr)) y pn (nx, fi, fl, fr) Q = TT 161 0 [some (.ref a)] [] (nx, fi, fl, fr) (fun v M1 => TT y pn L (v.toList ++ r) M1 Q) := by
  show TR (z_if (Nat.ble 1 (.ref a :: r).length && Nat.ble r.length 4) (z_if (Nat.ble (z_wd [.ref a]) (z_ml 161) && z_ok nx a 14) (some (.inr (.inr (161, [.ref a], L, r)))))) y pn (nx, fi, fl, fr) Q = _
  rw [z_le4_ble hr, h, show Nat.ble 1 (.ref a :: r).length = true from by simp]; rfl
theorem zr_iv_162  (h : z_ok nx a 14 = true) (hr : z_le4 r = true) : TR (z_st (.invokevirtual 162) n pc L (.ref a :: r) (nx, fi, fl, fr)) y pn (nx, fi, fl, fr) Q = TT 162 0 [some (.ref a)] [] (nx, fi, fl, fr) (fun v M1 => TT y pn L (v.toList ++ r) M1 Q) := by
  show TR (z_if (Nat.ble 1 (.ref a :: r).length && Nat.ble r.length 4) (z_if (Nat.ble (z_wd [.ref a]) (z_ml 162) && z_ok nx a 14) (some (.inr (.inr (162, [.ref a], L, r)))))) y pn (nx, fi, fl, fr) Q = _
  rw [z_le4_ble hr, h, show Nat.ble 1 (.ref a :: r).length = true from by simp]; rfl
theorem zr_iv_163 {x0 : Int32} {x1 : Int32} {x2 : Int32} (h : z_ok nx a 14 = true) (hr : z_le4 r = true) : TR (z_st (.invokevirtual 163) n pc L (.int x2 :: .int x1 :: .int x0 :: .ref a :: r) (nx, fi, fl, fr)) y pn (nx, fi, fl, fr) Q = TT 163 0 [some (.ref a), some (.int x0), some (.int x1), some (.int x2), none, none] [] (nx, fi, fl, fr) (fun v M1 => TT y pn L (v.toList ++ r) M1 Q) := by
  show TR (z_if (Nat.ble 4 (.int x2 :: .int x1 :: .int x0 :: .ref a :: r).length && Nat.ble r.length 4) (z_if (Nat.ble (z_wd [.ref a, .int x0, .int x1, .int x2]) (z_ml 163) && z_ok nx a 14) (some (.inr (.inr (163, [.ref a, .int x0, .int x1, .int x2], L, r)))))) y pn (nx, fi, fl, fr) Q = _
  rw [z_le4_ble hr, h, show Nat.ble 4 (.int x2 :: .int x1 :: .int x0 :: .ref a :: r).length = true from by simp]; rfl
theorem zr_iv_164 {x0 : Int32} {x1 : Int32} (hr : z_le4 r = true) : TR (z_st (.invokestatic 164) n pc L (.int x1 :: .int x0 :: r) (nx, fi, fl, fr)) y pn (nx, fi, fl, fr) Q = TT 164 0 [some (.int x0), some (.int x1), none] [] (nx, fi, fl, fr) (fun v M1 => TT y pn L (v.toList ++ r) M1 Q) := by
  show TR (z_if (Nat.ble 2 (.int x1 :: .int x0 :: r).length && Nat.ble r.length 4) (z_if (Nat.ble (z_wd [.int x0, .int x1]) (z_ml 164)) (some (.inr (.inr (164, [.int x0, .int x1], L, r)))))) y pn (nx, fi, fl, fr) Q = _
  rw [z_le4_ble hr, show Nat.ble 2 (.int x1 :: .int x0 :: r).length = true from by simp]; rfl
theorem zr_iv_165  (h : z_ok nx a 15 = true) (hr : z_le4 r = true) : TR (z_st (.invokespecial 165) n pc L (.ref a :: r) (nx, fi, fl, fr)) y pn (nx, fi, fl, fr) Q = TT 165 0 [some (.ref a)] [] (nx, fi, fl, fr) (fun v M1 => TT y pn L (v.toList ++ r) M1 Q) := by
  show TR (z_if (Nat.ble 1 (.ref a :: r).length && Nat.ble r.length 4) (z_if (Nat.ble (z_wd [.ref a]) (z_ml 165) && z_ok nx a 15) (some (.inr (.inr (165, [.ref a], L, r)))))) y pn (nx, fi, fl, fr) Q = _
  rw [z_le4_ble hr, h, show Nat.ble 1 (.ref a :: r).length = true from by simp]; rfl
theorem zr_iv_166  (h : z_ok nx a 15 = true) (hr : z_le4 r = true) : TR (z_st (.invokevirtual 166) n pc L (.ref a :: r) (nx, fi, fl, fr)) y pn (nx, fi, fl, fr) Q = TT 166 0 [some (.ref a)] [] (nx, fi, fl, fr) (fun v M1 => TT y pn L (v.toList ++ r) M1 Q) := by
  show TR (z_if (Nat.ble 1 (.ref a :: r).length && Nat.ble r.length 4) (z_if (Nat.ble (z_wd [.ref a]) (z_ml 166) && z_ok nx a 15) (some (.inr (.inr (166, [.ref a], L, r)))))) y pn (nx, fi, fl, fr) Q = _
  rw [z_le4_ble hr, h, show Nat.ble 1 (.ref a :: r).length = true from by simp]; rfl
theorem zr_iv_167 {x0 : Int32} {x1 : Int32} {x2 : Int32} (h : z_ok nx a 15 = true) (hr : z_le4 r = true) : TR (z_st (.invokevirtual 167) n pc L (.int x2 :: .int x1 :: .int x0 :: .ref a :: r) (nx, fi, fl, fr)) y pn (nx, fi, fl, fr) Q = TT 167 0 [some (.ref a), some (.int x0), some (.int x1), some (.int x2)] [] (nx, fi, fl, fr) (fun v M1 => TT y pn L (v.toList ++ r) M1 Q) := by
  show TR (z_if (Nat.ble 4 (.int x2 :: .int x1 :: .int x0 :: .ref a :: r).length && Nat.ble r.length 4) (z_if (Nat.ble (z_wd [.ref a, .int x0, .int x1, .int x2]) (z_ml 167) && z_ok nx a 15) (some (.inr (.inr (167, [.ref a, .int x0, .int x1, .int x2], L, r)))))) y pn (nx, fi, fl, fr) Q = _
  rw [z_le4_ble hr, h, show Nat.ble 4 (.int x2 :: .int x1 :: .int x0 :: .ref a :: r).length = true from by simp]; rfl
theorem zr_iv_168 {x0 : Int32} {x1 : Int32} {x2 : Int32} (h : z_ok nx a 15 = true) (hr : z_le4 r = true) : TR (z_st (.invokevirtual 168) n pc L (.int x2 :: .int x1 :: .int x0 :: .ref a :: r) (nx, fi, fl, fr)) y pn (nx, fi, fl, fr) Q = TT 168 0 [some (.ref a), some (.int x0), some (.int x1), some (.int x2), none, none] [] (nx, fi, fl, fr) (fun v M1 => TT y pn L (v.toList ++ r) M1 Q) := by
  show TR (z_if (Nat.ble 4 (.int x2 :: .int x1 :: .int x0 :: .ref a :: r).length && Nat.ble r.length 4) (z_if (Nat.ble (z_wd [.ref a, .int x0, .int x1, .int x2]) (z_ml 168) && z_ok nx a 15) (some (.inr (.inr (168, [.ref a, .int x0, .int x1, .int x2], L, r)))))) y pn (nx, fi, fl, fr) Q = _
  rw [z_le4_ble hr, h, show Nat.ble 4 (.int x2 :: .int x1 :: .int x0 :: .ref a :: r).length = true from by simp]; rfl
theorem zr_iv_169 {x0 : Nat} (h : z_ok nx a 15 = true) (hr : z_le4 r = true) : TR (z_st (.invokevirtual 169) n pc L (.ref x0 :: .ref a :: r) (nx, fi, fl, fr)) y pn (nx, fi, fl, fr) Q = TT 169 0 [some (.ref a), some (.ref x0), none, none, none, none] [] (nx, fi, fl, fr) (fun v M1 => TT y pn L (v.toList ++ r) M1 Q) := by
  show TR (z_if (Nat.ble 2 (.ref x0 :: .ref a :: r).length && Nat.ble r.length 4) (z_if (Nat.ble (z_wd [.ref a, .ref x0]) (z_ml 169) && z_ok nx a 15) (some (.inr (.inr (169, [.ref a, .ref x0], L, r)))))) y pn (nx, fi, fl, fr) Q = _
  rw [z_le4_ble hr, h, show Nat.ble 2 (.ref x0 :: .ref a :: r).length = true from by simp]; rfl
theorem zr_iv_170 {x0 : Int32} (hr : z_le4 r = true) : TR (z_st (.invokestatic 170) n pc L (.int x0 :: r) (nx, fi, fl, fr)) y pn (nx, fi, fl, fr) Q = TT 170 0 [some (.int x0)] [] (nx, fi, fl, fr) (fun v M1 => TT y pn L (v.toList ++ r) M1 Q) := by
  show TR (z_if (Nat.ble 1 (.int x0 :: r).length && Nat.ble r.length 4) (z_if (Nat.ble (z_wd [.int x0]) (z_ml 170)) (some (.inr (.inr (170, [.int x0], L, r)))))) y pn (nx, fi, fl, fr) Q = _
  rw [z_le4_ble hr, show Nat.ble 1 (.int x0 :: r).length = true from by simp]; rfl
theorem zr_iv_171 {x0 : Int32} {x1 : Int32} (hr : z_le4 r = true) : TR (z_st (.invokestatic 171) n pc L (.int x1 :: .int x0 :: r) (nx, fi, fl, fr)) y pn (nx, fi, fl, fr) Q = TT 171 0 [some (.int x0), some (.int x1)] [] (nx, fi, fl, fr) (fun v M1 => TT y pn L (v.toList ++ r) M1 Q) := by
  show TR (z_if (Nat.ble 2 (.int x1 :: .int x0 :: r).length && Nat.ble r.length 4) (z_if (Nat.ble (z_wd [.int x0, .int x1]) (z_ml 171)) (some (.inr (.inr (171, [.int x0, .int x1], L, r)))))) y pn (nx, fi, fl, fr) Q = _
  rw [z_le4_ble hr, show Nat.ble 2 (.int x1 :: .int x0 :: r).length = true from by simp]; rfl
theorem zr_iv_172 {x0 : Int32} {x1 : Int32} (hr : z_le4 r = true) : TR (z_st (.invokestatic 172) n pc L (.int x1 :: .int x0 :: r) (nx, fi, fl, fr)) y pn (nx, fi, fl, fr) Q = TT 172 0 [some (.int x0), some (.int x1)] [] (nx, fi, fl, fr) (fun v M1 => TT y pn L (v.toList ++ r) M1 Q) := by
  show TR (z_if (Nat.ble 2 (.int x1 :: .int x0 :: r).length && Nat.ble r.length 4) (z_if (Nat.ble (z_wd [.int x0, .int x1]) (z_ml 172)) (some (.inr (.inr (172, [.int x0, .int x1], L, r)))))) y pn (nx, fi, fl, fr) Q = _
  rw [z_le4_ble hr, show Nat.ble 2 (.int x1 :: .int x0 :: r).length = true from by simp]; rfl
theorem zr_iv_173 {x0 : Int32} {x1 : Int32} (hr : z_le4 r = true) : TR (z_st (.invokestatic 173) n pc L (.int x1 :: .int x0 :: r) (nx, fi, fl, fr)) y pn (nx, fi, fl, fr) Q = TT 173 0 [some (.int x0), some (.int x1)] [] (nx, fi, fl, fr) (fun v M1 => TT y pn L (v.toList ++ r) M1 Q) := by
  show TR (z_if (Nat.ble 2 (.int x1 :: .int x0 :: r).length && Nat.ble r.length 4) (z_if (Nat.ble (z_wd [.int x0, .int x1]) (z_ml 173)) (some (.inr (.inr (173, [.int x0, .int x1], L, r)))))) y pn (nx, fi, fl, fr) Q = _
  rw [z_le4_ble hr, show Nat.ble 2 (.int x1 :: .int x0 :: r).length = true from by simp]; rfl
theorem zr_iv_174 {x0 : Int32} (hr : z_le4 r = true) : TR (z_st (.invokestatic 174) n pc L (.int x0 :: r) (nx, fi, fl, fr)) y pn (nx, fi, fl, fr) Q = TT 174 0 [some (.int x0)] [] (nx, fi, fl, fr) (fun v M1 => TT y pn L (v.toList ++ r) M1 Q) := by
  show TR (z_if (Nat.ble 1 (.int x0 :: r).length && Nat.ble r.length 4) (z_if (Nat.ble (z_wd [.int x0]) (z_ml 174)) (some (.inr (.inr (174, [.int x0], L, r)))))) y pn (nx, fi, fl, fr) Q = _
  rw [z_le4_ble hr, show Nat.ble 1 (.int x0 :: r).length = true from by simp]; rfl
theorem zr_iv_175  (h : z_ok nx a 16 = true) (hr : z_le4 r = true) : TR (z_st (.invokespecial 175) n pc L (.ref a :: r) (nx, fi, fl, fr)) y pn (nx, fi, fl, fr) Q = TT 175 0 [some (.ref a), none] [] (nx, fi, fl, fr) (fun v M1 => TT y pn L (v.toList ++ r) M1 Q) := by
  show TR (z_if (Nat.ble 1 (.ref a :: r).length && Nat.ble r.length 4) (z_if (Nat.ble (z_wd [.ref a]) (z_ml 175) && z_ok nx a 16) (some (.inr (.inr (175, [.ref a], L, r)))))) y pn (nx, fi, fl, fr) Q = _
  rw [z_le4_ble hr, h, show Nat.ble 1 (.ref a :: r).length = true from by simp]; rfl
theorem zr_iv_176  (h : z_ok nx a 16 = true) (hr : z_le4 r = true) : TR (z_st (.invokevirtual 176) n pc L (.ref a :: r) (nx, fi, fl, fr)) y pn (nx, fi, fl, fr) Q = TT 176 0 [some (.ref a), none] [] (nx, fi, fl, fr) (fun v M1 => TT y pn L (v.toList ++ r) M1 Q) := by
  show TR (z_if (Nat.ble 1 (.ref a :: r).length && Nat.ble r.length 4) (z_if (Nat.ble (z_wd [.ref a]) (z_ml 176) && z_ok nx a 16) (some (.inr (.inr (176, [.ref a], L, r)))))) y pn (nx, fi, fl, fr) Q = _
  rw [z_le4_ble hr, h, show Nat.ble 1 (.ref a :: r).length = true from by simp]; rfl
theorem zr_iv_177 {x0 : Nat} (h : z_ok nx a 16 = true) (hr : z_le4 r = true) : TR (z_st (.invokevirtual 177) n pc L (.ref x0 :: .ref a :: r) (nx, fi, fl, fr)) y pn (nx, fi, fl, fr) Q = TT 177 0 [some (.ref a), some (.ref x0), none] [] (nx, fi, fl, fr) (fun v M1 => TT y pn L (v.toList ++ r) M1 Q) := by
  show TR (z_if (Nat.ble 2 (.ref x0 :: .ref a :: r).length && Nat.ble r.length 4) (z_if (Nat.ble (z_wd [.ref a, .ref x0]) (z_ml 177) && z_ok nx a 16) (some (.inr (.inr (177, [.ref a, .ref x0], L, r)))))) y pn (nx, fi, fl, fr) Q = _
  rw [z_le4_ble hr, h, show Nat.ble 2 (.ref x0 :: .ref a :: r).length = true from by simp]; rfl
theorem zr_iv_178 {x0 : Int32} {x1 : Int32} (h : z_ok nx a 16 = true) (hr : z_le4 r = true) : TR (z_st (.invokevirtual 178) n pc L (.int x1 :: .int x0 :: .ref a :: r) (nx, fi, fl, fr)) y pn (nx, fi, fl, fr) Q = TT 178 0 [some (.ref a), some (.int x0), some (.int x1)] [] (nx, fi, fl, fr) (fun v M1 => TT y pn L (v.toList ++ r) M1 Q) := by
  show TR (z_if (Nat.ble 3 (.int x1 :: .int x0 :: .ref a :: r).length && Nat.ble r.length 4) (z_if (Nat.ble (z_wd [.ref a, .int x0, .int x1]) (z_ml 178) && z_ok nx a 16) (some (.inr (.inr (178, [.ref a, .int x0, .int x1], L, r)))))) y pn (nx, fi, fl, fr) Q = _
  rw [z_le4_ble hr, h, show Nat.ble 3 (.int x1 :: .int x0 :: .ref a :: r).length = true from by simp]; rfl
theorem zr_iv_179  (h : z_ok nx a 16 = true) (hr : z_le4 r = true) : TR (z_st (.invokevirtual 179) n pc L (.ref a :: r) (nx, fi, fl, fr)) y pn (nx, fi, fl, fr) Q = TT 179 0 [some (.ref a)] [] (nx, fi, fl, fr) (fun v M1 => TT y pn L (v.toList ++ r) M1 Q) := by
  show TR (z_if (Nat.ble 1 (.ref a :: r).length && Nat.ble r.length 4) (z_if (Nat.ble (z_wd [.ref a]) (z_ml 179) && z_ok nx a 16) (some (.inr (.inr (179, [.ref a], L, r)))))) y pn (nx, fi, fl, fr) Q = _
  rw [z_le4_ble hr, h, show Nat.ble 1 (.ref a :: r).length = true from by simp]; rfl
theorem zr_iv_180 {x0 : Int32} {x1 : Int32} {x2 : Int32} {x3 : Int32} {x4 : Int32} (h : z_ok nx a 16 = true) (hr : z_le4 r = true) : TR (z_st (.invokevirtual 180) n pc L (.int x4 :: .int x3 :: .int x2 :: .int x1 :: .int x0 :: .ref a :: r) (nx, fi, fl, fr)) y pn (nx, fi, fl, fr) Q = TT 180 0 [some (.ref a), some (.int x0), some (.int x1), some (.int x2), some (.int x3), some (.int x4), none] [] (nx, fi, fl, fr) (fun v M1 => TT y pn L (v.toList ++ r) M1 Q) := by
  show TR (z_if (Nat.ble 6 (.int x4 :: .int x3 :: .int x2 :: .int x1 :: .int x0 :: .ref a :: r).length && Nat.ble r.length 4) (z_if (Nat.ble (z_wd [.ref a, .int x0, .int x1, .int x2, .int x3, .int x4]) (z_ml 180) && z_ok nx a 16) (some (.inr (.inr (180, [.ref a, .int x0, .int x1, .int x2, .int x3, .int x4], L, r)))))) y pn (nx, fi, fl, fr) Q = _
  rw [z_le4_ble hr, h, show Nat.ble 6 (.int x4 :: .int x3 :: .int x2 :: .int x1 :: .int x0 :: .ref a :: r).length = true from by simp]; rfl
theorem zr_iv_181 {x0 : Int32} (h : z_ok nx a 16 = true) (hr : z_le4 r = true) : TR (z_st (.invokevirtual 181) n pc L (.int x0 :: .ref a :: r) (nx, fi, fl, fr)) y pn (nx, fi, fl, fr) Q = TT 181 0 [some (.ref a), some (.int x0), none] [] (nx, fi, fl, fr) (fun v M1 => TT y pn L (v.toList ++ r) M1 Q) := by
  show TR (z_if (Nat.ble 2 (.int x0 :: .ref a :: r).length && Nat.ble r.length 4) (z_if (Nat.ble (z_wd [.ref a, .int x0]) (z_ml 181) && z_ok nx a 16) (some (.inr (.inr (181, [.ref a, .int x0], L, r)))))) y pn (nx, fi, fl, fr) Q = _
  rw [z_le4_ble hr, h, show Nat.ble 2 (.int x0 :: .ref a :: r).length = true from by simp]; rfl
theorem zr_iv_182 {x0 : Int32} (h : z_ok nx a 16 = true) (hr : z_le4 r = true) : TR (z_st (.invokevirtual 182) n pc L (.int x0 :: .ref a :: r) (nx, fi, fl, fr)) y pn (nx, fi, fl, fr) Q = TT 182 0 [some (.ref a), some (.int x0)] [] (nx, fi, fl, fr) (fun v M1 => TT y pn L (v.toList ++ r) M1 Q) := by
  show TR (z_if (Nat.ble 2 (.int x0 :: .ref a :: r).length && Nat.ble r.length 4) (z_if (Nat.ble (z_wd [.ref a, .int x0]) (z_ml 182) && z_ok nx a 16) (some (.inr (.inr (182, [.ref a, .int x0], L, r)))))) y pn (nx, fi, fl, fr) Q = _
  rw [z_le4_ble hr, h, show Nat.ble 2 (.int x0 :: .ref a :: r).length = true from by simp]; rfl
theorem zr_iv_183  (h : z_ok nx a 16 = true) (hr : z_le4 r = true) : TR (z_st (.invokevirtual 183) n pc L (.ref a :: r) (nx, fi, fl, fr)) y pn (nx, fi, fl, fr) Q = TT 183 0 [some (.ref a), none] [] (nx, fi, fl, fr) (fun v M1 => TT y pn L (v.toList ++ r) M1 Q) := by
  show TR (z_if (Nat.ble 1 (.ref a :: r).length && Nat.ble r.length 4) (z_if (Nat.ble (z_wd [.ref a]) (z_ml 183) && z_ok nx a 16) (some (.inr (.inr (183, [.ref a], L, r)))))) y pn (nx, fi, fl, fr) Q = _
  rw [z_le4_ble hr, h, show Nat.ble 1 (.ref a :: r).length = true from by simp]; rfl
theorem zr_iv_184 {x0 : Int32} (h : z_ok nx a 16 = true) (hr : z_le4 r = true) : TR (z_st (.invokevirtual 184) n pc L (.int x0 :: .ref a :: r) (nx, fi, fl, fr)) y pn (nx, fi, fl, fr) Q = TT 184 0 [some (.ref a), some (.int x0)] [] (nx, fi, fl, fr) (fun v M1 => TT y pn L (v.toList ++ r) M1 Q) := by
  show TR (z_if (Nat.ble 2 (.int x0 :: .ref a :: r).length && Nat.ble r.length 4) (z_if (Nat.ble (z_wd [.ref a, .int x0]) (z_ml 184) && z_ok nx a 16) (some (.inr (.inr (184, [.ref a, .int x0], L, r)))))) y pn (nx, fi, fl, fr) Q = _
  rw [z_le4_ble hr, h, show Nat.ble 2 (.int x0 :: .ref a :: r).length = true from by simp]; rfl
theorem zr_iv_185 {x0 : Int32} (h : z_ok nx a 16 = true) (hr : z_le4 r = true) : TR (z_st (.invokevirtual 185) n pc L (.int x0 :: .ref a :: r) (nx, fi, fl, fr)) y pn (nx, fi, fl, fr) Q = TT 185 0 [some (.ref a), some (.int x0)] [] (nx, fi, fl, fr) (fun v M1 => TT y pn L (v.toList ++ r) M1 Q) := by
  show TR (z_if (Nat.ble 2 (.int x0 :: .ref a :: r).length && Nat.ble r.length 4) (z_if (Nat.ble (z_wd [.ref a, .int x0]) (z_ml 185) && z_ok nx a 16) (some (.inr (.inr (185, [.ref a, .int x0], L, r)))))) y pn (nx, fi, fl, fr) Q = _
  rw [z_le4_ble hr, h, show Nat.ble 2 (.int x0 :: .ref a :: r).length = true from by simp]; rfl
theorem zr_iv_186 {x0 : Int32} (h : z_ok nx a 16 = true) (hr : z_le4 r = true) : TR (z_st (.invokevirtual 186) n pc L (.int x0 :: .ref a :: r) (nx, fi, fl, fr)) y pn (nx, fi, fl, fr) Q = TT 186 0 [some (.ref a), some (.int x0)] [] (nx, fi, fl, fr) (fun v M1 => TT y pn L (v.toList ++ r) M1 Q) := by
  show TR (z_if (Nat.ble 2 (.int x0 :: .ref a :: r).length && Nat.ble r.length 4) (z_if (Nat.ble (z_wd [.ref a, .int x0]) (z_ml 186) && z_ok nx a 16) (some (.inr (.inr (186, [.ref a, .int x0], L, r)))))) y pn (nx, fi, fl, fr) Q = _
  rw [z_le4_ble hr, h, show Nat.ble 2 (.int x0 :: .ref a :: r).length = true from by simp]; rfl
theorem zr_iv_187 {x0 : Int32} (h : z_ok nx a 16 = true) (hr : z_le4 r = true) : TR (z_st (.invokevirtual 187) n pc L (.int x0 :: .ref a :: r) (nx, fi, fl, fr)) y pn (nx, fi, fl, fr) Q = TT 187 0 [some (.ref a), some (.int x0)] [] (nx, fi, fl, fr) (fun v M1 => TT y pn L (v.toList ++ r) M1 Q) := by
  show TR (z_if (Nat.ble 2 (.int x0 :: .ref a :: r).length && Nat.ble r.length 4) (z_if (Nat.ble (z_wd [.ref a, .int x0]) (z_ml 187) && z_ok nx a 16) (some (.inr (.inr (187, [.ref a, .int x0], L, r)))))) y pn (nx, fi, fl, fr) Q = _
  rw [z_le4_ble hr, h, show Nat.ble 2 (.int x0 :: .ref a :: r).length = true from by simp]; rfl
theorem zr_iv_188 {x0 : Int32} (h : z_ok nx a 16 = true) (hr : z_le4 r = true) : TR (z_st (.invokevirtual 188) n pc L (.int x0 :: .ref a :: r) (nx, fi, fl, fr)) y pn (nx, fi, fl, fr) Q = TT 188 0 [some (.ref a), some (.int x0)] [] (nx, fi, fl, fr) (fun v M1 => TT y pn L (v.toList ++ r) M1 Q) := by
  show TR (z_if (Nat.ble 2 (.int x0 :: .ref a :: r).length && Nat.ble r.length 4) (z_if (Nat.ble (z_wd [.ref a, .int x0]) (z_ml 188) && z_ok nx a 16) (some (.inr (.inr (188, [.ref a, .int x0], L, r)))))) y pn (nx, fi, fl, fr) Q = _
  rw [z_le4_ble hr, h, show Nat.ble 2 (.int x0 :: .ref a :: r).length = true from by simp]; rfl
theorem zr_iv_189  (h : z_ok nx a 16 = true) (hr : z_le4 r = true) : TR (z_st (.invokevirtual 189) n pc L (.ref a :: r) (nx, fi, fl, fr)) y pn (nx, fi, fl, fr) Q = TT 189 0 [some (.ref a)] [] (nx, fi, fl, fr) (fun v M1 => TT y pn L (v.toList ++ r) M1 Q) := by
  show TR (z_if (Nat.ble 1 (.ref a :: r).length && Nat.ble r.length 4) (z_if (Nat.ble (z_wd [.ref a]) (z_ml 189) && z_ok nx a 16) (some (.inr (.inr (189, [.ref a], L, r)))))) y pn (nx, fi, fl, fr) Q = _
  rw [z_le4_ble hr, h, show Nat.ble 1 (.ref a :: r).length = true from by simp]; rfl
theorem zr_iv_190 {x0 : Int32} (h : z_ok nx a 16 = true) (hr : z_le4 r = true) : TR (z_st (.invokevirtual 190) n pc L (.int x0 :: .ref a :: r) (nx, fi, fl, fr)) y pn (nx, fi, fl, fr) Q = TT 190 0 [some (.ref a), some (.int x0)] [] (nx, fi, fl, fr) (fun v M1 => TT y pn L (v.toList ++ r) M1 Q) := by
  show TR (z_if (Nat.ble 2 (.int x0 :: .ref a :: r).length && Nat.ble r.length 4) (z_if (Nat.ble (z_wd [.ref a, .int x0]) (z_ml 190) && z_ok nx a 16) (some (.inr (.inr (190, [.ref a, .int x0], L, r)))))) y pn (nx, fi, fl, fr) Q = _
  rw [z_le4_ble hr, h, show Nat.ble 2 (.int x0 :: .ref a :: r).length = true from by simp]; rfl
theorem zr_iv_191 {x0 : Int32} (h : z_ok nx a 16 = true) (hr : z_le4 r = true) : TR (z_st (.invokevirtual 191) n pc L (.int x0 :: .ref a :: r) (nx, fi, fl, fr)) y pn (nx, fi, fl, fr) Q = TT 191 0 [some (.ref a), some (.int x0), none] [] (nx, fi, fl, fr) (fun v M1 => TT y pn L (v.toList ++ r) M1 Q) := by
  show TR (z_if (Nat.ble 2 (.int x0 :: .ref a :: r).length && Nat.ble r.length 4) (z_if (Nat.ble (z_wd [.ref a, .int x0]) (z_ml 191) && z_ok nx a 16) (some (.inr (.inr (191, [.ref a, .int x0], L, r)))))) y pn (nx, fi, fl, fr) Q = _
  rw [z_le4_ble hr, h, show Nat.ble 2 (.int x0 :: .ref a :: r).length = true from by simp]; rfl
theorem zr_iv_192  (h : z_ok nx a 16 = true) (hr : z_le4 r = true) : TR (z_st (.invokevirtual 192) n pc L (.ref a :: r) (nx, fi, fl, fr)) y pn (nx, fi, fl, fr) Q = TT 192 0 [some (.ref a), none, none] [] (nx, fi, fl, fr) (fun v M1 => TT y pn L (v.toList ++ r) M1 Q) := by
  show TR (z_if (Nat.ble 1 (.ref a :: r).length && Nat.ble r.length 4) (z_if (Nat.ble (z_wd [.ref a]) (z_ml 192) && z_ok nx a 16) (some (.inr (.inr (192, [.ref a], L, r)))))) y pn (nx, fi, fl, fr) Q = _
  rw [z_le4_ble hr, h, show Nat.ble 1 (.ref a :: r).length = true from by simp]; rfl
theorem zr_iv_193  (h : z_ok nx a 16 = true) (hr : z_le4 r = true) : TR (z_st (.invokevirtual 193) n pc L (.ref a :: r) (nx, fi, fl, fr)) y pn (nx, fi, fl, fr) Q = TT 193 0 [some (.ref a), none, none] [] (nx, fi, fl, fr) (fun v M1 => TT y pn L (v.toList ++ r) M1 Q) := by
  show TR (z_if (Nat.ble 1 (.ref a :: r).length && Nat.ble r.length 4) (z_if (Nat.ble (z_wd [.ref a]) (z_ml 193) && z_ok nx a 16) (some (.inr (.inr (193, [.ref a], L, r)))))) y pn (nx, fi, fl, fr) Q = _
  rw [z_le4_ble hr, h, show Nat.ble 1 (.ref a :: r).length = true from by simp]; rfl
theorem zr_iv_194 {x0 : Int32} (h : z_ok nx a 16 = true) (hr : z_le4 r = true) : TR (z_st (.invokevirtual 194) n pc L (.int x0 :: .ref a :: r) (nx, fi, fl, fr)) y pn (nx, fi, fl, fr) Q = TT 194 0 [some (.ref a), some (.int x0), none, none] [] (nx, fi, fl, fr) (fun v M1 => TT y pn L (v.toList ++ r) M1 Q) := by
  show TR (z_if (Nat.ble 2 (.int x0 :: .ref a :: r).length && Nat.ble r.length 4) (z_if (Nat.ble (z_wd [.ref a, .int x0]) (z_ml 194) && z_ok nx a 16) (some (.inr (.inr (194, [.ref a, .int x0], L, r)))))) y pn (nx, fi, fl, fr) Q = _
  rw [z_le4_ble hr, h, show Nat.ble 2 (.int x0 :: .ref a :: r).length = true from by simp]; rfl
theorem zr_iv_195 {x0 : Int32} (h : z_ok nx a 16 = true) (hr : z_le4 r = true) : TR (z_st (.invokevirtual 195) n pc L (.int x0 :: .ref a :: r) (nx, fi, fl, fr)) y pn (nx, fi, fl, fr) Q = TT 195 0 [some (.ref a), some (.int x0)] [] (nx, fi, fl, fr) (fun v M1 => TT y pn L (v.toList ++ r) M1 Q) := by
  show TR (z_if (Nat.ble 2 (.int x0 :: .ref a :: r).length && Nat.ble r.length 4) (z_if (Nat.ble (z_wd [.ref a, .int x0]) (z_ml 195) && z_ok nx a 16) (some (.inr (.inr (195, [.ref a, .int x0], L, r)))))) y pn (nx, fi, fl, fr) Q = _
  rw [z_le4_ble hr, h, show Nat.ble 2 (.int x0 :: .ref a :: r).length = true from by simp]; rfl
theorem zr_iv_196  (h : z_ok nx a 16 = true) (hr : z_le4 r = true) : TR (z_st (.invokevirtual 196) n pc L (.ref a :: r) (nx, fi, fl, fr)) y pn (nx, fi, fl, fr) Q = TT 196 0 [some (.ref a)] [] (nx, fi, fl, fr) (fun v M1 => TT y pn L (v.toList ++ r) M1 Q) := by
  show TR (z_if (Nat.ble 1 (.ref a :: r).length && Nat.ble r.length 4) (z_if (Nat.ble (z_wd [.ref a]) (z_ml 196) && z_ok nx a 16) (some (.inr (.inr (196, [.ref a], L, r)))))) y pn (nx, fi, fl, fr) Q = _
  rw [z_le4_ble hr, h, show Nat.ble 1 (.ref a :: r).length = true from by simp]; rfl
theorem zr_iv_197 {x0 : Int32} {x1 : Int32} (h : z_ok nx a 16 = true) (hr : z_le4 r = true) : TR (z_st (.invokevirtual 197) n pc L (.int x1 :: .int x0 :: .ref a :: r) (nx, fi, fl, fr)) y pn (nx, fi, fl, fr) Q = TT 197 0 [some (.ref a), some (.int x0), some (.int x1), none] [] (nx, fi, fl, fr) (fun v M1 => TT y pn L (v.toList ++ r) M1 Q) := by
  show TR (z_if (Nat.ble 3 (.int x1 :: .int x0 :: .ref a :: r).length && Nat.ble r.length 4) (z_if (Nat.ble (z_wd [.ref a, .int x0, .int x1]) (z_ml 197) && z_ok nx a 16) (some (.inr (.inr (197, [.ref a, .int x0, .int x1], L, r)))))) y pn (nx, fi, fl, fr) Q = _
  rw [z_le4_ble hr, h, show Nat.ble 3 (.int x1 :: .int x0 :: .ref a :: r).length = true from by simp]; rfl
theorem zr_iv_198 {x0 : Int64} (h : z_ok nx a 16 = true) (hr : z_le4 r = true) : TR (z_st (.invokevirtual 198) n pc L (.long x0 :: .ref a :: r) (nx, fi, fl, fr)) y pn (nx, fi, fl, fr) Q = TT 198 0 [some (.ref a), some (.long x0), none, none, none, none] [] (nx, fi, fl, fr) (fun v M1 => TT y pn L (v.toList ++ r) M1 Q) := by
  show TR (z_if (Nat.ble 2 (.long x0 :: .ref a :: r).length && Nat.ble r.length 4) (z_if (Nat.ble (z_wd [.ref a, .long x0]) (z_ml 198) && z_ok nx a 16) (some (.inr (.inr (198, [.ref a, .long x0], L, r)))))) y pn (nx, fi, fl, fr) Q = _
  rw [z_le4_ble hr, h, show Nat.ble 2 (.long x0 :: .ref a :: r).length = true from by simp]; rfl
theorem zr_iv_199 {x0 : Int32} (h : z_ok nx a 17 = true) (hr : z_le4 r = true) : TR (z_st (.invokespecial 199) n pc L (.int x0 :: .ref a :: r) (nx, fi, fl, fr)) y pn (nx, fi, fl, fr) Q = TT 199 0 [some (.ref a), some (.int x0)] [] (nx, fi, fl, fr) (fun v M1 => TT y pn L (v.toList ++ r) M1 Q) := by
  show TR (z_if (Nat.ble 2 (.int x0 :: .ref a :: r).length && Nat.ble r.length 4) (z_if (Nat.ble (z_wd [.ref a, .int x0]) (z_ml 199) && z_ok nx a 17) (some (.inr (.inr (199, [.ref a, .int x0], L, r)))))) y pn (nx, fi, fl, fr) Q = _
  rw [z_le4_ble hr, h, show Nat.ble 2 (.int x0 :: .ref a :: r).length = true from by simp]; rfl
theorem zr_iv_200 {x0 : Int32} (h : z_ok nx a 17 = true) (hr : z_le4 r = true) : TR (z_st (.invokevirtual 200) n pc L (.int x0 :: .ref a :: r) (nx, fi, fl, fr)) y pn (nx, fi, fl, fr) Q = TT 200 0 [some (.ref a), some (.int x0)] [] (nx, fi, fl, fr) (fun v M1 => TT y pn L (v.toList ++ r) M1 Q) := by
  show TR (z_if (Nat.ble 2 (.int x0 :: .ref a :: r).length && Nat.ble r.length 4) (z_if (Nat.ble (z_wd [.ref a, .int x0]) (z_ml 200) && z_ok nx a 17) (some (.inr (.inr (200, [.ref a, .int x0], L, r)))))) y pn (nx, fi, fl, fr) Q = _
  rw [z_le4_ble hr, h, show Nat.ble 2 (.int x0 :: .ref a :: r).length = true from by simp]; rfl
theorem zr_iv_201  (h : z_ok nx a 17 = true) (hr : z_le4 r = true) : TR (z_st (.invokevirtual 201) n pc L (.ref a :: r) (nx, fi, fl, fr)) y pn (nx, fi, fl, fr) Q = TT 201 0 [some (.ref a)] [] (nx, fi, fl, fr) (fun v M1 => TT y pn L (v.toList ++ r) M1 Q) := by
  show TR (z_if (Nat.ble 1 (.ref a :: r).length && Nat.ble r.length 4) (z_if (Nat.ble (z_wd [.ref a]) (z_ml 201) && z_ok nx a 17) (some (.inr (.inr (201, [.ref a], L, r)))))) y pn (nx, fi, fl, fr) Q = _
  rw [z_le4_ble hr, h, show Nat.ble 1 (.ref a :: r).length = true from by simp]; rfl
theorem zr_iv_202 {x0 : Int32} (h : z_ok nx a 17 = true) (hr : z_le4 r = true) : TR (z_st (.invokevirtual 202) n pc L (.int x0 :: .ref a :: r) (nx, fi, fl, fr)) y pn (nx, fi, fl, fr) Q = TT 202 0 [some (.ref a), some (.int x0), none, none, none] [] (nx, fi, fl, fr) (fun v M1 => TT y pn L (v.toList ++ r) M1 Q) := by
  show TR (z_if (Nat.ble 2 (.int x0 :: .ref a :: r).length && Nat.ble r.length 4) (z_if (Nat.ble (z_wd [.ref a, .int x0]) (z_ml 202) && z_ok nx a 17) (some (.inr (.inr (202, [.ref a, .int x0], L, r)))))) y pn (nx, fi, fl, fr) Q = _
  rw [z_le4_ble hr, h, show Nat.ble 2 (.int x0 :: .ref a :: r).length = true from by simp]; rfl
theorem zr_iv_203 {x0 : Int32} (h : z_ok nx a 17 = true) (hr : z_le4 r = true) : TR (z_st (.invokevirtual 203) n pc L (.int x0 :: .ref a :: r) (nx, fi, fl, fr)) y pn (nx, fi, fl, fr) Q = TT 203 0 [some (.ref a), some (.int x0)] [] (nx, fi, fl, fr) (fun v M1 => TT y pn L (v.toList ++ r) M1 Q) := by
  show TR (z_if (Nat.ble 2 (.int x0 :: .ref a :: r).length && Nat.ble r.length 4) (z_if (Nat.ble (z_wd [.ref a, .int x0]) (z_ml 203) && z_ok nx a 17) (some (.inr (.inr (203, [.ref a, .int x0], L, r)))))) y pn (nx, fi, fl, fr) Q = _
  rw [z_le4_ble hr, h, show Nat.ble 2 (.int x0 :: .ref a :: r).length = true from by simp]; rfl
theorem zr_iv_204 {x0 : Int64} (h : z_ok nx a 17 = true) (hr : z_le4 r = true) : TR (z_st (.invokevirtual 204) n pc L (.long x0 :: .ref a :: r) (nx, fi, fl, fr)) y pn (nx, fi, fl, fr) Q = TT 204 0 [some (.ref a), some (.long x0), none, none, none, none] [] (nx, fi, fl, fr) (fun v M1 => TT y pn L (v.toList ++ r) M1 Q) := by
  show TR (z_if (Nat.ble 2 (.long x0 :: .ref a :: r).length && Nat.ble r.length 4) (z_if (Nat.ble (z_wd [.ref a, .long x0]) (z_ml 204) && z_ok nx a 17) (some (.inr (.inr (204, [.ref a, .long x0], L, r)))))) y pn (nx, fi, fl, fr) Q = _
  rw [z_le4_ble hr, h, show Nat.ble 2 (.long x0 :: .ref a :: r).length = true from by simp]; rfl
theorem zr_iv_205 {x0 : Nat} {x1 : Nat} (h : z_ok nx a 18 = true) (hr : z_le4 r = true) : TR (z_st (.invokespecial 205) n pc L (.ref x1 :: .ref x0 :: .ref a :: r) (nx, fi, fl, fr)) y pn (nx, fi, fl, fr) Q = TT 205 0 [some (.ref a), some (.ref x0), some (.ref x1)] [] (nx, fi, fl, fr) (fun v M1 => TT y pn L (v.toList ++ r) M1 Q) := by
  show TR (z_if (Nat.ble 3 (.ref x1 :: .ref x0 :: .ref a :: r).length && Nat.ble r.length 4) (z_if (Nat.ble (z_wd [.ref a, .ref x0, .ref x1]) (z_ml 205) && z_ok nx a 18) (some (.inr (.inr (205, [.ref a, .ref x0, .ref x1], L, r)))))) y pn (nx, fi, fl, fr) Q = _
  rw [z_le4_ble hr, h, show Nat.ble 3 (.ref x1 :: .ref x0 :: .ref a :: r).length = true from by simp]; rfl
theorem zr_iv_206  (h : z_ok nx a 18 = true) (hr : z_le4 r = true) : TR (z_st (.invokevirtual 206) n pc L (.ref a :: r) (nx, fi, fl, fr)) y pn (nx, fi, fl, fr) Q = TT 206 0 [some (.ref a)] [] (nx, fi, fl, fr) (fun v M1 => TT y pn L (v.toList ++ r) M1 Q) := by
  show TR (z_if (Nat.ble 1 (.ref a :: r).length && Nat.ble r.length 4) (z_if (Nat.ble (z_wd [.ref a]) (z_ml 206) && z_ok nx a 18) (some (.inr (.inr (206, [.ref a], L, r)))))) y pn (nx, fi, fl, fr) Q = _
  rw [z_le4_ble hr, h, show Nat.ble 1 (.ref a :: r).length = true from by simp]; rfl
theorem zr_iv_207  (h : z_ok nx a 18 = true) (hr : z_le4 r = true) : TR (z_st (.invokevirtual 207) n pc L (.ref a :: r) (nx, fi, fl, fr)) y pn (nx, fi, fl, fr) Q = TT 207 0 [some (.ref a)] [] (nx, fi, fl, fr) (fun v M1 => TT y pn L (v.toList ++ r) M1 Q) := by
  show TR (z_if (Nat.ble 1 (.ref a :: r).length && Nat.ble r.length 4) (z_if (Nat.ble (z_wd [.ref a]) (z_ml 207) && z_ok nx a 18) (some (.inr (.inr (207, [.ref a], L, r)))))) y pn (nx, fi, fl, fr) Q = _
  rw [z_le4_ble hr, h, show Nat.ble 1 (.ref a :: r).length = true from by simp]; rfl
theorem zr_iv_208  (h : z_ok nx a 18 = true) (hr : z_le4 r = true) : TR (z_st (.invokevirtual 208) n pc L (.ref a :: r) (nx, fi, fl, fr)) y pn (nx, fi, fl, fr) Q = TT 208 0 [some (.ref a)] [] (nx, fi, fl, fr) (fun v M1 => TT y pn L (v.toList ++ r) M1 Q) := by
  show TR (z_if (Nat.ble 1 (.ref a :: r).length && Nat.ble r.length 4) (z_if (Nat.ble (z_wd [.ref a]) (z_ml 208) && z_ok nx a 18) (some (.inr (.inr (208, [.ref a], L, r)))))) y pn (nx, fi, fl, fr) Q = _
  rw [z_le4_ble hr, h, show Nat.ble 1 (.ref a :: r).length = true from by simp]; rfl
theorem zr_iv_209  (h : z_ok nx a 18 = true) (hr : z_le4 r = true) : TR (z_st (.invokevirtual 209) n pc L (.ref a :: r) (nx, fi, fl, fr)) y pn (nx, fi, fl, fr) Q = TT 209 0 [some (.ref a)] [] (nx, fi, fl, fr) (fun v M1 => TT y pn L (v.toList ++ r) M1 Q) := by
  show TR (z_if (Nat.ble 1 (.ref a :: r).length && Nat.ble r.length 4) (z_if (Nat.ble (z_wd [.ref a]) (z_ml 209) && z_ok nx a 18) (some (.inr (.inr (209, [.ref a], L, r)))))) y pn (nx, fi, fl, fr) Q = _
  rw [z_le4_ble hr, h, show Nat.ble 1 (.ref a :: r).length = true from by simp]; rfl
theorem zr_iv_210  (h : z_ok nx a 18 = true) (hr : z_le4 r = true) : TR (z_st (.invokevirtual 210) n pc L (.ref a :: r) (nx, fi, fl, fr)) y pn (nx, fi, fl, fr) Q = TT 210 0 [some (.ref a), none, none, none] [] (nx, fi, fl, fr) (fun v M1 => TT y pn L (v.toList ++ r) M1 Q) := by
  show TR (z_if (Nat.ble 1 (.ref a :: r).length && Nat.ble r.length 4) (z_if (Nat.ble (z_wd [.ref a]) (z_ml 210) && z_ok nx a 18) (some (.inr (.inr (210, [.ref a], L, r)))))) y pn (nx, fi, fl, fr) Q = _
  rw [z_le4_ble hr, h, show Nat.ble 1 (.ref a :: r).length = true from by simp]; rfl
theorem zr_iv_211  (h : z_ok nx a 18 = true) (hr : z_le4 r = true) : TR (z_st (.invokevirtual 211) n pc L (.ref a :: r) (nx, fi, fl, fr)) y pn (nx, fi, fl, fr) Q = TT 211 0 [some (.ref a), none, none, none] [] (nx, fi, fl, fr) (fun v M1 => TT y pn L (v.toList ++ r) M1 Q) := by
  show TR (z_if (Nat.ble 1 (.ref a :: r).length && Nat.ble r.length 4) (z_if (Nat.ble (z_wd [.ref a]) (z_ml 211) && z_ok nx a 18) (some (.inr (.inr (211, [.ref a], L, r)))))) y pn (nx, fi, fl, fr) Q = _
  rw [z_le4_ble hr, h, show Nat.ble 1 (.ref a :: r).length = true from by simp]; rfl
theorem zr_iv_212 {x0 : Int32} {x1 : Int32} (hr : z_le4 r = true) : TR (z_st (.invokestatic 212) n pc L (.int x1 :: .int x0 :: r) (nx, fi, fl, fr)) y pn (nx, fi, fl, fr) Q = TT 212 0 [some (.int x0), some (.int x1), none] [] (nx, fi, fl, fr) (fun v M1 => TT y pn L (v.toList ++ r) M1 Q) := by
  show TR (z_if (Nat.ble 2 (.int x1 :: .int x0 :: r).length && Nat.ble r.length 4) (z_if (Nat.ble (z_wd [.int x0, .int x1]) (z_ml 212)) (some (.inr (.inr (212, [.int x0, .int x1], L, r)))))) y pn (nx, fi, fl, fr) Q = _
  rw [z_le4_ble hr, show Nat.ble 2 (.int x1 :: .int x0 :: r).length = true from by simp]; rfl
theorem zr_iv_213 {x0 : Int32} {x1 : Int32} {x2 : Int32} (hr : z_le4 r = true) : TR (z_st (.invokestatic 213) n pc L (.int x2 :: .int x1 :: .int x0 :: r) (nx, fi, fl, fr)) y pn (nx, fi, fl, fr) Q = TT 213 0 [some (.int x0), some (.int x1), some (.int x2)] [] (nx, fi, fl, fr) (fun v M1 => TT y pn L (v.toList ++ r) M1 Q) := by
  show TR (z_if (Nat.ble 3 (.int x2 :: .int x1 :: .int x0 :: r).length && Nat.ble r.length 4) (z_if (Nat.ble (z_wd [.int x0, .int x1, .int x2]) (z_ml 213)) (some (.inr (.inr (213, [.int x0, .int x1, .int x2], L, r)))))) y pn (nx, fi, fl, fr) Q = _
  rw [z_le4_ble hr, show Nat.ble 3 (.int x2 :: .int x1 :: .int x0 :: r).length = true from by simp]; rfl
theorem zr_iv_214 {x0 : Int32} {x1 : Int32} (hr : z_le4 r = true) : TR (z_st (.invokestatic 214) n pc L (.int x1 :: .int x0 :: r) (nx, fi, fl, fr)) y pn (nx, fi, fl, fr) Q = TT 214 0 [some (.int x0), some (.int x1)] [] (nx, fi, fl, fr) (fun v M1 => TT y pn L (v.toList ++ r) M1 Q) := by
  show TR (z_if (Nat.ble 2 (.int x1 :: .int x0 :: r).length && Nat.ble r.length 4) (z_if (Nat.ble (z_wd [.int x0, .int x1]) (z_ml 214)) (some (.inr (.inr (214, [.int x0, .int x1], L, r)))))) y pn (nx, fi, fl, fr) Q = _
  rw [z_le4_ble hr, show Nat.ble 2 (.int x1 :: .int x0 :: r).length = true from by simp]; rfl
theorem zr_iv_215  (h : z_ok nx a 18 = true) (hr : z_le4 r = true) : TR (z_st (.invokevirtual 215) n pc L (.ref a :: r) (nx, fi, fl, fr)) y pn (nx, fi, fl, fr) Q = TT 215 0 [some (.ref a), none, none, none, none] [] (nx, fi, fl, fr) (fun v M1 => TT y pn L (v.toList ++ r) M1 Q) := by
  show TR (z_if (Nat.ble 1 (.ref a :: r).length && Nat.ble r.length 4) (z_if (Nat.ble (z_wd [.ref a]) (z_ml 215) && z_ok nx a 18) (some (.inr (.inr (215, [.ref a], L, r)))))) y pn (nx, fi, fl, fr) Q = _
  rw [z_le4_ble hr, h, show Nat.ble 1 (.ref a :: r).length = true from by simp]; rfl
theorem zr_iv_216 {x0 : Int32} (h : z_ok nx a 18 = true) (hr : z_le4 r = true) : TR (z_st (.invokevirtual 216) n pc L (.int x0 :: .ref a :: r) (nx, fi, fl, fr)) y pn (nx, fi, fl, fr) Q = TT 216 0 [some (.ref a), some (.int x0), none, none] [] (nx, fi, fl, fr) (fun v M1 => TT y pn L (v.toList ++ r) M1 Q) := by
  show TR (z_if (Nat.ble 2 (.int x0 :: .ref a :: r).length && Nat.ble r.length 4) (z_if (Nat.ble (z_wd [.ref a, .int x0]) (z_ml 216) && z_ok nx a 18) (some (.inr (.inr (216, [.ref a, .int x0], L, r)))))) y pn (nx, fi, fl, fr) Q = _
  rw [z_le4_ble hr, h, show Nat.ble 2 (.int x0 :: .ref a :: r).length = true from by simp]; rfl
theorem zr_iv_217 {x0 : Int32} (h : z_ok nx a 18 = true) (hr : z_le4 r = true) : TR (z_st (.invokevirtual 217) n pc L (.int x0 :: .ref a :: r) (nx, fi, fl, fr)) y pn (nx, fi, fl, fr) Q = TT 217 0 [some (.ref a), some (.int x0), none, none] [] (nx, fi, fl, fr) (fun v M1 => TT y pn L (v.toList ++ r) M1 Q) := by
  show TR (z_if (Nat.ble 2 (.int x0 :: .ref a :: r).length && Nat.ble r.length 4) (z_if (Nat.ble (z_wd [.ref a, .int x0]) (z_ml 217) && z_ok nx a 18) (some (.inr (.inr (217, [.ref a, .int x0], L, r)))))) y pn (nx, fi, fl, fr) Q = _
  rw [z_le4_ble hr, h, show Nat.ble 2 (.int x0 :: .ref a :: r).length = true from by simp]; rfl
theorem zr_iv_218 {x0 : Int32} {x1 : Int32} (hr : z_le4 r = true) : TR (z_st (.invokestatic 218) n pc L (.int x1 :: .int x0 :: r) (nx, fi, fl, fr)) y pn (nx, fi, fl, fr) Q = TT 218 0 [some (.int x0), some (.int x1), none] [] (nx, fi, fl, fr) (fun v M1 => TT y pn L (v.toList ++ r) M1 Q) := by
  show TR (z_if (Nat.ble 2 (.int x1 :: .int x0 :: r).length && Nat.ble r.length 4) (z_if (Nat.ble (z_wd [.int x0, .int x1]) (z_ml 218)) (some (.inr (.inr (218, [.int x0, .int x1], L, r)))))) y pn (nx, fi, fl, fr) Q = _
  rw [z_le4_ble hr, show Nat.ble 2 (.int x1 :: .int x0 :: r).length = true from by simp]; rfl
theorem zr_iv_219  (h : z_ok nx a 18 = true) (hr : z_le4 r = true) : TR (z_st (.invokevirtual 219) n pc L (.ref a :: r) (nx, fi, fl, fr)) y pn (nx, fi, fl, fr) Q = TT 219 0 [some (.ref a)] [] (nx, fi, fl, fr) (fun v M1 => TT y pn L (v.toList ++ r) M1 Q) := by
  show TR (z_if (Nat.ble 1 (.ref a :: r).length && Nat.ble r.length 4) (z_if (Nat.ble (z_wd [.ref a]) (z_ml 219) && z_ok nx a 18) (some (.inr (.inr (219, [.ref a], L, r)))))) y pn (nx, fi, fl, fr) Q = _
  rw [z_le4_ble hr, h, show Nat.ble 1 (.ref a :: r).length = true from by simp]; rfl
theorem zr_iv_220  (h : z_ok nx a 18 = true) (hr : z_le4 r = true) : TR (z_st (.invokevirtual 220) n pc L (.ref a :: r) (nx, fi, fl, fr)) y pn (nx, fi, fl, fr) Q = TT 220 0 [some (.ref a)] [] (nx, fi, fl, fr) (fun v M1 => TT y pn L (v.toList ++ r) M1 Q) := by
  show TR (z_if (Nat.ble 1 (.ref a :: r).length && Nat.ble r.length 4) (z_if (Nat.ble (z_wd [.ref a]) (z_ml 220) && z_ok nx a 18) (some (.inr (.inr (220, [.ref a], L, r)))))) y pn (nx, fi, fl, fr) Q = _
  rw [z_le4_ble hr, h, show Nat.ble 1 (.ref a :: r).length = true from by simp]; rfl
theorem zr_iv_221  (h : z_ok nx a 18 = true) (hr : z_le4 r = true) : TR (z_st (.invokevirtual 221) n pc L (.ref a :: r) (nx, fi, fl, fr)) y pn (nx, fi, fl, fr) Q = TT 221 0 [some (.ref a), none, none] [] (nx, fi, fl, fr) (fun v M1 => TT y pn L (v.toList ++ r) M1 Q) := by
  show TR (z_if (Nat.ble 1 (.ref a :: r).length && Nat.ble r.length 4) (z_if (Nat.ble (z_wd [.ref a]) (z_ml 221) && z_ok nx a 18) (some (.inr (.inr (221, [.ref a], L, r)))))) y pn (nx, fi, fl, fr) Q = _
  rw [z_le4_ble hr, h, show Nat.ble 1 (.ref a :: r).length = true from by simp]; rfl
theorem zr_iv_222 {x0 : Nat} {x1 : Int32} {x2 : Int32} (h : z_ok nx a 18 = true) (hr : z_le4 r = true) : TR (z_st (.invokevirtual 222) n pc L (.int x2 :: .int x1 :: .ref x0 :: .ref a :: r) (nx, fi, fl, fr)) y pn (nx, fi, fl, fr) Q = TT 222 0 [some (.ref a), some (.ref x0), some (.int x1), some (.int x2), none, none, none] [] (nx, fi, fl, fr) (fun v M1 => TT y pn L (v.toList ++ r) M1 Q) := by
  show TR (z_if (Nat.ble 4 (.int x2 :: .int x1 :: .ref x0 :: .ref a :: r).length && Nat.ble r.length 4) (z_if (Nat.ble (z_wd [.ref a, .ref x0, .int x1, .int x2]) (z_ml 222) && z_ok nx a 18) (some (.inr (.inr (222, [.ref a, .ref x0, .int x1, .int x2], L, r)))))) y pn (nx, fi, fl, fr) Q = _
  rw [z_le4_ble hr, h, show Nat.ble 4 (.int x2 :: .int x1 :: .ref x0 :: .ref a :: r).length = true from by simp]; rfl
theorem zr_iv_223 {x0 : Int32} (h : z_ok nx a 18 = true) (hr : z_le4 r = true) : TR (z_st (.invokevirtual 223) n pc L (.int x0 :: .ref a :: r) (nx, fi, fl, fr)) y pn (nx, fi, fl, fr) Q = TT 223 0 [some (.ref a), some (.int x0), none, none, none, none] [] (nx, fi, fl, fr) (fun v M1 => TT y pn L (v.toList ++ r) M1 Q) := by
  show TR (z_if (Nat.ble 2 (.int x0 :: .ref a :: r).length && Nat.ble r.length 4) (z_if (Nat.ble (z_wd [.ref a, .int x0]) (z_ml 223) && z_ok nx a 18) (some (.inr (.inr (223, [.ref a, .int x0], L, r)))))) y pn (nx, fi, fl, fr) Q = _
  rw [z_le4_ble hr, h, show Nat.ble 2 (.int x0 :: .ref a :: r).length = true from by simp]; rfl
theorem zr_iv_224  (h : z_ok nx a 18 = true) (hr : z_le4 r = true) : TR (z_st (.invokevirtual 224) n pc L (.ref a :: r) (nx, fi, fl, fr)) y pn (nx, fi, fl, fr) Q = TT 224 0 [some (.ref a), none, none, none] [] (nx, fi, fl, fr) (fun v M1 => TT y pn L (v.toList ++ r) M1 Q) := by
  show TR (z_if (Nat.ble 1 (.ref a :: r).length && Nat.ble r.length 4) (z_if (Nat.ble (z_wd [.ref a]) (z_ml 224) && z_ok nx a 18) (some (.inr (.inr (224, [.ref a], L, r)))))) y pn (nx, fi, fl, fr) Q = _
  rw [z_le4_ble hr, h, show Nat.ble 1 (.ref a :: r).length = true from by simp]; rfl
theorem zr_iv_225 {x0 : Int32} (h : z_ok nx a 18 = true) (hr : z_le4 r = true) : TR (z_st (.invokevirtual 225) n pc L (.int x0 :: .ref a :: r) (nx, fi, fl, fr)) y pn (nx, fi, fl, fr) Q = TT 225 0 [some (.ref a), some (.int x0), none] [] (nx, fi, fl, fr) (fun v M1 => TT y pn L (v.toList ++ r) M1 Q) := by
  show TR (z_if (Nat.ble 2 (.int x0 :: .ref a :: r).length && Nat.ble r.length 4) (z_if (Nat.ble (z_wd [.ref a, .int x0]) (z_ml 225) && z_ok nx a 18) (some (.inr (.inr (225, [.ref a, .int x0], L, r)))))) y pn (nx, fi, fl, fr) Q = _
  rw [z_le4_ble hr, h, show Nat.ble 2 (.int x0 :: .ref a :: r).length = true from by simp]; rfl
theorem zr_iv_226 {x0 : Int32} (h : z_ok nx a 18 = true) (hr : z_le4 r = true) : TR (z_st (.invokevirtual 226) n pc L (.int x0 :: .ref a :: r) (nx, fi, fl, fr)) y pn (nx, fi, fl, fr) Q = TT 226 0 [some (.ref a), some (.int x0), none, none, none] [] (nx, fi, fl, fr) (fun v M1 => TT y pn L (v.toList ++ r) M1 Q) := by
  show TR (z_if (Nat.ble 2 (.int x0 :: .ref a :: r).length && Nat.ble r.length 4) (z_if (Nat.ble (z_wd [.ref a, .int x0]) (z_ml 226) && z_ok nx a 18) (some (.inr (.inr (226, [.ref a, .int x0], L, r)))))) y pn (nx, fi, fl, fr) Q = _
  rw [z_le4_ble hr, h, show Nat.ble 2 (.int x0 :: .ref a :: r).length = true from by simp]; rfl
theorem zr_iv_227 {x0 : Int32} (h : z_ok nx a 18 = true) (hr : z_le4 r = true) : TR (z_st (.invokevirtual 227) n pc L (.int x0 :: .ref a :: r) (nx, fi, fl, fr)) y pn (nx, fi, fl, fr) Q = TT 227 0 [some (.ref a), some (.int x0), none, none] [] (nx, fi, fl, fr) (fun v M1 => TT y pn L (v.toList ++ r) M1 Q) := by
  show TR (z_if (Nat.ble 2 (.int x0 :: .ref a :: r).length && Nat.ble r.length 4) (z_if (Nat.ble (z_wd [.ref a, .int x0]) (z_ml 227) && z_ok nx a 18) (some (.inr (.inr (227, [.ref a, .int x0], L, r)))))) y pn (nx, fi, fl, fr) Q = _
  rw [z_le4_ble hr, h, show Nat.ble 2 (.int x0 :: .ref a :: r).length = true from by simp]; rfl
theorem zr_iv_228  (h : z_ok nx a 19 = true) (hr : z_le4 r = true) : TR (z_st (.invokespecial 228) n pc L (.ref a :: r) (nx, fi, fl, fr)) y pn (nx, fi, fl, fr) Q = TT 228 0 [some (.ref a)] [] (nx, fi, fl, fr) (fun v M1 => TT y pn L (v.toList ++ r) M1 Q) := by
  show TR (z_if (Nat.ble 1 (.ref a :: r).length && Nat.ble r.length 4) (z_if (Nat.ble (z_wd [.ref a]) (z_ml 228) && z_ok nx a 19) (some (.inr (.inr (228, [.ref a], L, r)))))) y pn (nx, fi, fl, fr) Q = _
  rw [z_le4_ble hr, h, show Nat.ble 1 (.ref a :: r).length = true from by simp]; rfl
theorem zr_iv_229  (h : z_ok nx a 19 = true) (hr : z_le4 r = true) : TR (z_st (.invokevirtual 229) n pc L (.ref a :: r) (nx, fi, fl, fr)) y pn (nx, fi, fl, fr) Q = TT 229 0 [some (.ref a)] [] (nx, fi, fl, fr) (fun v M1 => TT y pn L (v.toList ++ r) M1 Q) := by
  show TR (z_if (Nat.ble 1 (.ref a :: r).length && Nat.ble r.length 4) (z_if (Nat.ble (z_wd [.ref a]) (z_ml 229) && z_ok nx a 19) (some (.inr (.inr (229, [.ref a], L, r)))))) y pn (nx, fi, fl, fr) Q = _
  rw [z_le4_ble hr, h, show Nat.ble 1 (.ref a :: r).length = true from by simp]; rfl
theorem zr_iv_230 {x0 : Int32} {x1 : Nat} (h : z_ok nx a 19 = true) (hr : z_le4 r = true) : TR (z_st (.invokevirtual 230) n pc L (.ref x1 :: .int x0 :: .ref a :: r) (nx, fi, fl, fr)) y pn (nx, fi, fl, fr) Q = TT 230 0 [some (.ref a), some (.int x0), some (.ref x1), none] [] (nx, fi, fl, fr) (fun v M1 => TT y pn L (v.toList ++ r) M1 Q) := by
  show TR (z_if (Nat.ble 3 (.ref x1 :: .int x0 :: .ref a :: r).length && Nat.ble r.length 4) (z_if (Nat.ble (z_wd [.ref a, .int x0, .ref x1]) (z_ml 230) && z_ok nx a 19) (some (.inr (.inr (230, [.ref a, .int x0, .ref x1], L, r)))))) y pn (nx, fi, fl, fr) Q = _
  rw [z_le4_ble hr, h, show Nat.ble 3 (.ref x1 :: .int x0 :: .ref a :: r).length = true from by simp]; rfl
theorem zr_iv_231 {x0 : Int32} (h : z_ok nx a 19 = true) (hr : z_le4 r = true) : TR (z_st (.invokevirtual 231) n pc L (.int x0 :: .ref a :: r) (nx, fi, fl, fr)) y pn (nx, fi, fl, fr) Q = TT 231 0 [some (.ref a), some (.int x0)] [] (nx, fi, fl, fr) (fun v M1 => TT y pn L (v.toList ++ r) M1 Q) := by
  show TR (z_if (Nat.ble 2 (.int x0 :: .ref a :: r).length && Nat.ble r.length 4) (z_if (Nat.ble (z_wd [.ref a, .int x0]) (z_ml 231) && z_ok nx a 19) (some (.inr (.inr (231, [.ref a, .int x0], L, r)))))) y pn (nx, fi, fl, fr) Q = _
  rw [z_le4_ble hr, h, show Nat.ble 2 (.int x0 :: .ref a :: r).length = true from by simp]; rfl
theorem zr_iv_232 {x0 : Int32} {x1 : Int32} (h : z_ok nx a 19 = true) (hr : z_le4 r = true) : TR (z_st (.invokevirtual 232) n pc L (.int x1 :: .int x0 :: .ref a :: r) (nx, fi, fl, fr)) y pn (nx, fi, fl, fr) Q = TT 232 0 [some (.ref a), some (.int x0), some (.int x1), none] [] (nx, fi, fl, fr) (fun v M1 => TT y pn L (v.toList ++ r) M1 Q) := by
  show TR (z_if (Nat.ble 3 (.int x1 :: .int x0 :: .ref a :: r).length && Nat.ble r.length 4) (z_if (Nat.ble (z_wd [.ref a, .int x0, .int x1]) (z_ml 232) && z_ok nx a 19) (some (.inr (.inr (232, [.ref a, .int x0, .int x1], L, r)))))) y pn (nx, fi, fl, fr) Q = _
  rw [z_le4_ble hr, h, show Nat.ble 3 (.int x1 :: .int x0 :: .ref a :: r).length = true from by simp]; rfl
theorem zr_iv_233 {x0 : Int32} {x1 : Int32} (h : z_ok nx a 19 = true) (hr : z_le4 r = true) : TR (z_st (.invokevirtual 233) n pc L (.int x1 :: .int x0 :: .ref a :: r) (nx, fi, fl, fr)) y pn (nx, fi, fl, fr) Q = TT 233 0 [some (.ref a), some (.int x0), some (.int x1)] [] (nx, fi, fl, fr) (fun v M1 => TT y pn L (v.toList ++ r) M1 Q) := by
  show TR (z_if (Nat.ble 3 (.int x1 :: .int x0 :: .ref a :: r).length && Nat.ble r.length 4) (z_if (Nat.ble (z_wd [.ref a, .int x0, .int x1]) (z_ml 233) && z_ok nx a 19) (some (.inr (.inr (233, [.ref a, .int x0, .int x1], L, r)))))) y pn (nx, fi, fl, fr) Q = _
  rw [z_le4_ble hr, h, show Nat.ble 3 (.int x1 :: .int x0 :: .ref a :: r).length = true from by simp]; rfl
theorem zr_iv_234  (h : z_ok nx a 19 = true) (hr : z_le4 r = true) : TR (z_st (.invokevirtual 234) n pc L (.ref a :: r) (nx, fi, fl, fr)) y pn (nx, fi, fl, fr) Q = TT 234 0 [some (.ref a), none, none, none] [] (nx, fi, fl, fr) (fun v M1 => TT y pn L (v.toList ++ r) M1 Q) := by
  show TR (z_if (Nat.ble 1 (.ref a :: r).length && Nat.ble r.length 4) (z_if (Nat.ble (z_wd [.ref a]) (z_ml 234) && z_ok nx a 19) (some (.inr (.inr (234, [.ref a], L, r)))))) y pn (nx, fi, fl, fr) Q = _
  rw [z_le4_ble hr, h, show Nat.ble 1 (.ref a :: r).length = true from by simp]; rfl
theorem zr_iv_235 {x0 : Int32} (h : z_ok nx a 19 = true) (hr : z_le4 r = true) : TR (z_st (.invokevirtual 235) n pc L (.int x0 :: .ref a :: r) (nx, fi, fl, fr)) y pn (nx, fi, fl, fr) Q = TT 235 0 [some (.ref a), some (.int x0), none, none, none] [] (nx, fi, fl, fr) (fun v M1 => TT y pn L (v.toList ++ r) M1 Q) := by
  show TR (z_if (Nat.ble 2 (.int x0 :: .ref a :: r).length && Nat.ble r.length 4) (z_if (Nat.ble (z_wd [.ref a, .int x0]) (z_ml 235) && z_ok nx a 19) (some (.inr (.inr (235, [.ref a, .int x0], L, r)))))) y pn (nx, fi, fl, fr) Q = _
  rw [z_le4_ble hr, h, show Nat.ble 2 (.int x0 :: .ref a :: r).length = true from by simp]; rfl
theorem zr_iv_236 {x0 : Int32} {x1 : Int32} (h : z_ok nx a 19 = true) (hr : z_le4 r = true) : TR (z_st (.invokevirtual 236) n pc L (.int x1 :: .int x0 :: .ref a :: r) (nx, fi, fl, fr)) y pn (nx, fi, fl, fr) Q = TT 236 0 [some (.ref a), some (.int x0), some (.int x1), none, none, none, none] [] (nx, fi, fl, fr) (fun v M1 => TT y pn L (v.toList ++ r) M1 Q) := by
  show TR (z_if (Nat.ble 3 (.int x1 :: .int x0 :: .ref a :: r).length && Nat.ble r.length 4) (z_if (Nat.ble (z_wd [.ref a, .int x0, .int x1]) (z_ml 236) && z_ok nx a 19) (some (.inr (.inr (236, [.ref a, .int x0, .int x1], L, r)))))) y pn (nx, fi, fl, fr) Q = _
  rw [z_le4_ble hr, h, show Nat.ble 3 (.int x1 :: .int x0 :: .ref a :: r).length = true from by simp]; rfl
theorem zr_iv_237 {x0 : Nat} (h : z_ok nx a 19 = true) (hr : z_le4 r = true) : TR (z_st (.invokevirtual 237) n pc L (.ref x0 :: .ref a :: r) (nx, fi, fl, fr)) y pn (nx, fi, fl, fr) Q = TT 237 0 [some (.ref a), some (.ref x0), none, none, none, none] [] (nx, fi, fl, fr) (fun v M1 => TT y pn L (v.toList ++ r) M1 Q) := by
  show TR (z_if (Nat.ble 2 (.ref x0 :: .ref a :: r).length && Nat.ble r.length 4) (z_if (Nat.ble (z_wd [.ref a, .ref x0]) (z_ml 237) && z_ok nx a 19) (some (.inr (.inr (237, [.ref a, .ref x0], L, r)))))) y pn (nx, fi, fl, fr) Q = _
  rw [z_le4_ble hr, h, show Nat.ble 2 (.ref x0 :: .ref a :: r).length = true from by simp]; rfl
theorem zr_iv_238 {x0 : Int32} (hr : z_le4 r = true) : TR (z_st (.invokestatic 238) n pc L (.int x0 :: r) (nx, fi, fl, fr)) y pn (nx, fi, fl, fr) Q = TT 238 0 [some (.int x0)] [] (nx, fi, fl, fr) (fun v M1 => TT y pn L (v.toList ++ r) M1 Q) := by
  show TR (z_if (Nat.ble 1 (.int x0 :: r).length && Nat.ble r.length 4) (z_if (Nat.ble (z_wd [.int x0]) (z_ml 238)) (some (.inr (.inr (238, [.int x0], L, r)))))) y pn (nx, fi, fl, fr) Q = _
  rw [z_le4_ble hr, show Nat.ble 1 (.int x0 :: r).length = true from by simp]; rfl
theorem zr_iv_239  (h : z_ok nx a 8 = true) (hr : z_le4 r = true) : TR (z_st (.invokevirtual 239) n pc L (.ref a :: r) (nx, fi, fl, fr)) y pn (nx, fi, fl, fr) Q = TT 239 0 [some (.ref a)] [] (nx, fi, fl, fr) (fun v M1 => TT y pn L (v.toList ++ r) M1 Q) := by
  show TR (z_if (Nat.ble 1 (.ref a :: r).length && Nat.ble r.length 4) (z_if (Nat.ble (z_wd [.ref a]) (z_ml 239) && z_ok nx a 8) (some (.inr (.inr (239, [.ref a], L, r)))))) y pn (nx, fi, fl, fr) Q = _
  rw [z_le4_ble hr, h, show Nat.ble 1 (.ref a :: r).length = true from by simp]; rfl
theorem zr_iv_240 {x0 : Int32} (h : z_ok nx a 8 = true) (hr : z_le4 r = true) : TR (z_st (.invokevirtual 240) n pc L (.int x0 :: .ref a :: r) (nx, fi, fl, fr)) y pn (nx, fi, fl, fr) Q = TT 240 0 [some (.ref a), some (.int x0)] [] (nx, fi, fl, fr) (fun v M1 => TT y pn L (v.toList ++ r) M1 Q) := by
  show TR (z_if (Nat.ble 2 (.int x0 :: .ref a :: r).length && Nat.ble r.length 4) (z_if (Nat.ble (z_wd [.ref a, .int x0]) (z_ml 240) && z_ok nx a 8) (some (.inr (.inr (240, [.ref a, .int x0], L, r)))))) y pn (nx, fi, fl, fr) Q = _
  rw [z_le4_ble hr, h, show Nat.ble 2 (.int x0 :: .ref a :: r).length = true from by simp]; rfl
theorem zr_iv_241  (h : z_ok nx a 8 = true) (hr : z_le4 r = true) : TR (z_st (.invokevirtual 241) n pc L (.ref a :: r) (nx, fi, fl, fr)) y pn (nx, fi, fl, fr) Q = TT 241 0 [some (.ref a)] [] (nx, fi, fl, fr) (fun v M1 => TT y pn L (v.toList ++ r) M1 Q) := by
  show TR (z_if (Nat.ble 1 (.ref a :: r).length && Nat.ble r.length 4) (z_if (Nat.ble (z_wd [.ref a]) (z_ml 241) && z_ok nx a 8) (some (.inr (.inr (241, [.ref a], L, r)))))) y pn (nx, fi, fl, fr) Q = _
  rw [z_le4_ble hr, h, show Nat.ble 1 (.ref a :: r).length = true from by simp]; rfl
theorem zr_iv_242  (h : z_ok nx a 8 = true) (hr : z_le4 r = true) : TR (z_st (.invokevirtual 242) n pc L (.ref a :: r) (nx, fi, fl, fr)) y pn (nx, fi, fl, fr) Q = TT 242 0 [some (.ref a)] [] (nx, fi, fl, fr) (fun v M1 => TT y pn L (v.toList ++ r) M1 Q) := by
  show TR (z_if (Nat.ble 1 (.ref a :: r).length && Nat.ble r.length 4) (z_if (Nat.ble (z_wd [.ref a]) (z_ml 242) && z_ok nx a 8) (some (.inr (.inr (242, [.ref a], L, r)))))) y pn (nx, fi, fl, fr) Q = _
  rw [z_le4_ble hr, h, show Nat.ble 1 (.ref a :: r).length = true from by simp]; rfl
theorem zr_iv_243 {x0 : Int32} {x1 : Int32} (hr : z_le4 r = true) : TR (z_st (.invokestatic 243) n pc L (.int x1 :: .int x0 :: r) (nx, fi, fl, fr)) y pn (nx, fi, fl, fr) Q = TT 243 0 [some (.int x0), some (.int x1)] [] (nx, fi, fl, fr) (fun v M1 => TT y pn L (v.toList ++ r) M1 Q) := by
  show TR (z_if (Nat.ble 2 (.int x1 :: .int x0 :: r).length && Nat.ble r.length 4) (z_if (Nat.ble (z_wd [.int x0, .int x1]) (z_ml 243)) (some (.inr (.inr (243, [.int x0, .int x1], L, r)))))) y pn (nx, fi, fl, fr) Q = _
  rw [z_le4_ble hr, show Nat.ble 2 (.int x1 :: .int x0 :: r).length = true from by simp]; rfl
theorem zr_iv_244 {x0 : Nat} {x1 : Int32} (hr : z_le4 r = true) : TR (z_st (.invokestatic 244) n pc L (.int x1 :: .ref x0 :: r) (nx, fi, fl, fr)) y pn (nx, fi, fl, fr) Q = TT 244 0 [some (.ref x0), some (.int x1)] [] (nx, fi, fl, fr) (fun v M1 => TT y pn L (v.toList ++ r) M1 Q) := by
  show TR (z_if (Nat.ble 2 (.int x1 :: .ref x0 :: r).length && Nat.ble r.length 4) (z_if (Nat.ble (z_wd [.ref x0, .int x1]) (z_ml 244)) (some (.inr (.inr (244, [.ref x0, .int x1], L, r)))))) y pn (nx, fi, fl, fr) Q = _
  rw [z_le4_ble hr, show Nat.ble 2 (.int x1 :: .ref x0 :: r).length = true from by simp]; rfl
theorem zr_iv_245 {x0 : Int32} {x1 : Int32} {x2 : Nat} (hr : z_le4 r = true) : TR (z_st (.invokestatic 245) n pc L (.ref x2 :: .int x1 :: .int x0 :: r) (nx, fi, fl, fr)) y pn (nx, fi, fl, fr) Q = TT 245 0 [some (.int x0), some (.int x1), some (.ref x2)] [] (nx, fi, fl, fr) (fun v M1 => TT y pn L (v.toList ++ r) M1 Q) := by
  show TR (z_if (Nat.ble 3 (.ref x2 :: .int x1 :: .int x0 :: r).length && Nat.ble r.length 4) (z_if (Nat.ble (z_wd [.int x0, .int x1, .ref x2]) (z_ml 245)) (some (.inr (.inr (245, [.int x0, .int x1, .ref x2], L, r)))))) y pn (nx, fi, fl, fr) Q = _
  rw [z_le4_ble hr, show Nat.ble 3 (.ref x2 :: .int x1 :: .int x0 :: r).length = true from by simp]; rfl
theorem zr_ret0 {x : Int32} : TR (z_st (.ret 0) n pc L [.int x] M) y pn M Q = Q (some (.int x)) M := rfl
theorem zr_ret1_0 : TR (z_st (.ret 1) n pc L [.int (nI 0)] M) y pn M Q = Q (some (.int (nI 0))) M := rfl
theorem zr_ret1_1 : TR (z_st (.ret 1) n pc L [.int (nI 1)] M) y pn M Q = Q (some (.int (nI 1))) M := rfl
theorem zb01_B {b : Bool} : z_b01 (zB b) = true := by cases b <;> rfl
theorem zr_ret1_B {b : Bool} : TR (z_st (.ret 1) n pc L [.int (zB b)] M) y pn M Q = Q (some (.int (zB b))) M := by cases b <;> rfl
theorem zr_lret {x : Int64} : TR (z_st .lreturn n pc L [.long x] M) y pn M Q = Q (some (.long x)) M := rfl
theorem zr_aret {x : Nat} : TR (z_st .areturn n pc L [.ref x] M) y pn M Q = Q (some (.ref x)) M := rfl
theorem zr_return : TR (z_st .return_ n pc L [] M) y pn M Q = Q none M := rfl
theorem zv_some {v : Value} {l : List Value} : (some v).toList ++ l = v :: l := rfl
theorem zv_none {l : List Value} : (none : Option Value).toList ++ l = l := rfl
theorem zt_and {P R : Prop} (h : P) : ((P → R)) = R := propext ⟨fun f => f h, fun r _ => r⟩
end

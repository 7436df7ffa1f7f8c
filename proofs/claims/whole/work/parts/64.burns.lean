/-! burns, drawn, letGo, wages -/
theorem a_line_mem : ∀ (t : List Hd) (hl : Nat → Nat), ∀ p ∈ a_line t hl, ∃ x ∈ t, p.1 = x.1
  | [], _, p, hp => absurd hp List.not_mem_nil
  | x :: t, hl, p, hp => by
    rcases List.mem_cons.mp hp with rfl | hp
    · exact ⟨x, List.mem_cons_self, rfl⟩
    · obtain ⟨y, y1, y2⟩ := a_line_mem t _ p hp
      exact ⟨y, List.mem_cons_of_mem _ y1, y2⟩
theorem l_from_mem {r kn i : Nat} : ∀ m h, ∀ x ∈ l_from r kn i m h, x.1 = i
  | 0, h, x, hx => absurd hx List.not_mem_nil
  | m + 1, h, x, hx => by
    rcases List.mem_cons.mp hx with rfl | hx
    · rfl
    · exact l_from_mem m (h + 1) x hx
theorem l_dish_mem {w : Nat → Nat} {i s : Nat} {x : Hd} (hx : x ∈ l_dish w i s) : x.1 = i ∧ s < a_sm w i := by
  unfold l_dish at hx
  by_cases c : s < a_sm w i
  · rw [if_pos c] at hx
    exact ⟨l_from_mem _ _ x hx, c⟩
  · rw [if_neg c] at hx
    exact absurd hx List.not_mem_nil
theorem l_all_mem {w : Nat → Nat} (hw : a_WF w) {key : Nat} {x : Hd} (hx : x ∈ l_all w key 3 0) : x.1 < 3 ∧ a_at key x.1 ≠ 3 := by
  have k : ∀ d, d < 3 → x ∈ l_dish w d (a_at key d) → x.1 < 3 ∧ a_at key x.1 ≠ 3 := by
    intro d hd h
    obtain ⟨h1, h2⟩ := l_dish_mem h
    have := (hw.2.2.2.1 d hd).1.1
    rw [h1]
    exact ⟨hd, by omega⟩
  simp only [l_all, List.mem_append, List.not_mem_nil, or_false] at hx
  rcases hx with hx | hx | hx
  · exact k 0 (by decide) hx
  · exact k (0 + 1) (by decide) hx
  · exact k (0 + 1 + 1) (by decide) hx
theorem a_tm_bit {w : Nat → Nat} (hw : a_WF w) {s b e : Nat} (b8 : b < 8) (he : e < 3) (h : a_bit b e = false) : t_of e (a_rowS w s b) = 0 := by
  refine t_of_no (fun p hp => ?_)
  obtain ⟨x, x1, x2⟩ := a_line_mem _ _ p hp
  obtain ⟨y1, y2⟩ := l_all_mem hw x1
  rintro rfl
  rw [x2, a_keyS_at hw b8 y1] at *
  rw [h] at y2
  exact y2 rfl
def bits3 (b : Nat) : Nat := (if a_bit b 0 then 1 else 0) + (if a_bit b 1 then 1 else 0) + (if a_bit b 2 then 1 else 0)
theorem a_rm_eq {w : Nat → Nat} {s set : Nat} (hb : a_box w s) (ht : ∀ d, d < 3 → a_tot w d ≤ 15) (h8 : set < 8) (hm : ∀ d, d < 3 → a_bit set d = true → plc s d < a_tot w d) : a_rm w (nx s set) + bits3 set = a_rm w s := by
  obtain ⟨n1, n2⟩ := nx_plc hb.1 h8 (fun d hd h => Nat.lt_of_lt_of_le (hm d hd h) (ht d hd))
  have m0 := hm 0 (by decide)
  have m1 := hm 1 (by decide)
  have m2 := hm 2 (by decide)
  have p0 := n2 0 (by decide)
  have p1 := n2 1 (by decide)
  have p2 := n2 2 (by decide)
  unfold a_rm bits3
  rw [p0, p1, p2]
  cases e0 : a_bit set 0 <;> cases e1 : a_bit set 1 <;> cases e2 : a_bit set 2 <;> simp only [e0, e1, e2, if_true, if_false, Bool.false_eq_true, true_implies, false_implies] at * <;> omega
/-- shared minutes are no more than minutes to do -/
theorem a_sh_le {w : Nat → Nat} (hw : a_WF w) (hn : a_nw w ≠ 100) : ∀ m i, i + m = a_nw w → cN (shN (a_tmN w)) m i + a_rm w (a_sN w (i + m)) ≤ a_rm w (a_sN w i)
  | 0, i, _ => by simp [cN]
  | m + 1, i, hi => by
    have ih := a_sh_le hw hn m (i + 1) (by omega)
    have t : ∀ d, d < 3 → a_tot w d ≤ 15 := fun d hd => a_tot_le (hw.2.2.2.1 d hd).1
    have sys := a_sys hw (en := a_en w (w 54))
    have bE := a_box_E hw
    obtain ⟨sb, sF⟩ := a_sAt_spec (E := a_E w) sys bE (a_box_S hw) (s0 := a_S w) (n := a_nw w) rfl hn i (by omega)
    obtain ⟨q1, q8, q3, q4, q5⟩ := a_nxt_spec (E := a_E w) sys bE sb (by omega) (by
      have : a_nw w ≤ 45 ∨ a_nw w = 100 := a_FW_45 hw
      omega)
    have req := a_rm_eq sb t q8 ((a_mv_iff hw q8).mp q3).1
    have nx1 : a_sN w (i + 1) = nx (a_sN w i) (a_qN w i) := rfl
    have key : ∀ e, e < 3 → shN (a_tmN w) (3 * i + e) ≤ if a_bit (a_qN w i) e then 1 else 0 := by
      intro e he
      unfold shN shd
      cases hb : a_bit (a_qN w i) e
      · have : a_tmN w (3 * i + e) = 0 := by
          unfold a_tmN
          rw [show (3 * i + e) / 3 = i by omega, show (3 * i + e) % 3 = e by omega]
          exact a_tm_bit hw q8 he hb
        rw [this]
        decide
      · simp only [if_true]
        split <;> decide
    have k0 := key 0 (by decide)
    have k1 := key 1 (by decide)
    have k2 := key 2 (by decide)
    have req' : a_rm w (a_sN w (i + 1)) + bits3 (a_qN w i) = a_rm w (a_sN w i) := req
    unfold bits3 at req'
    rw [show i + (m + 1) = i + 1 + m by omega]
    show c3 (shN (a_tmN w)) i 3 0 + cN (shN (a_tmN w)) m (i + 1) + _ ≤ _
    rw [show c3 (shN (a_tmN w)) i 3 0 = shN (a_tmN w) (3 * i + 0) + (shN (a_tmN w) (3 * i + 1) + (shN (a_tmN w) (3 * i + 2) + 0)) from rfl]
    omega
def a_shr (w : Nat → Nat) : Nat := cN (shN (a_tmN w)) (a_nw w) 0
def a_shb (w : Nat → Nat) (c : Nat) : Nat := cN (shB (a_tmN w) c) (a_nw w) 0
theorem a_shr_le {w : Nat → Nat} (hw : a_WF w) (hn : a_nw w ≠ 100) : a_shr w ≤ 45 := by
  have h := a_sh_le hw hn (a_nw w) 0 (Nat.zero_add _)
  have := (a_sys hw (en := a_en w (w 54))).1 (a_S w) (a_box_S hw)
  have e : a_sN w 0 = a_S w := rfl
  rw [e] at h
  unfold a_shr
  omega
theorem c3_le {f g : Nat → Nat} (h : ∀ p, f p ≤ g p) {i : Nat} : ∀ m e, c3 f i m e ≤ c3 g i m e
  | 0, _ => Nat.le_refl _
  | m + 1, e => by
    have := c3_le h (i := i) m (e + 1)
    have := h (3 * i + e)
    show f (3 * i + e) + c3 f i m (e + 1) ≤ g (3 * i + e) + c3 g i m (e + 1)
    omega
theorem cN_le {f g : Nat → Nat} (h : ∀ p, f p ≤ g p) : ∀ m i, cN f m i ≤ cN g m i
  | 0, _ => Nat.le_refl _
  | m + 1, i => by
    have := cN_le h m (i + 1)
    have := c3_le h (i := i) 3 0
    show c3 f i 3 0 + cN f m (i + 1) ≤ c3 g i 3 0 + cN g m (i + 1)
    omega
theorem a_shb_le {w : Nat → Nat} {c : Nat} : a_shb w c ≤ a_shr w := by
  refine cN_le (fun p => ?_) _ _
  unfold shB shN
  cases shd (a_tmN w) p <;> simp
  split <;> omega
def nf6 (nn : Nat → Nat) (A B : Nat) : Nat → Nat := uh (uh nn 6 A) 7 B
def r_burns (ws : Nat → Nat → Nat) (nn : Nat → Nat) (x : Int32) : Int32 × (Nat → Nat) := if 0 ≤ x.toInt ∧ x.toInt ≤ 20 then (if a_nw (ws 0) = 100 then (nM 3, rf nn 3) else (nI 1, nf6 nn (a_pA (20 - x.toInt.toNat) 20 (a_shr (ws 0))) (a_pB (20 - x.toInt.toNat) 20 (a_shr (ws 0))))) else (nM 2, rf nn 2)
def r_drawn (ws : Nat → Nat → Nat) (nn : Nat → Nat) (x y : Int32) : Int32 × (Nat → Nat) := if 0 ≤ x.toInt ∧ x.toInt ≤ 20 ∧ 0 ≤ y.toInt ∧ y.toInt ≤ 999999 then (if a_nw (ws 0) = 100 then (nM 20, rf nn 3) else (match a_burn (a_tmN (ws 0)) x.toInt.toNat (3 * a_nw (ws 0)) 0 y.toInt.toNat with | some r => nI r | none => nM 1, nn)) else (nM 10, rf nn 2)
def r_letGo (ws : Nat → Nat → Nat) (nn : Nat → Nat) (x : Int32) : Int32 × (Nat → Nat) := if 0 ≤ x.toInt ∧ x.toInt < ws 0 0 then (if a_nw (ws 0) = 100 then (nM 3, rf nn 3) else (nI 1, if a_shr (ws 0) = 0 then nf6 nn 0 1 else nf6 nn (a_pA (a_shb (ws 0) x.toInt.toNat) (a_shr (ws 0)) 1) (a_pB (a_shb (ws 0) x.toInt.toNat) (a_shr (ws 0)) 1))) else (nM 2, rf nn 2)
def r_wages (w : Nat → Nat) : Int32 := if a_nw w = 100 then nM 1 else nI (wgN w (a_tmN w) (a_nw w) 0)
section
variable {fi fi' : Nat → Nat → Int32} {fl : Nat → Nat → Int64} {fr : Nat → Nat → Option Nat} {Q : Option Value → Mm → Prop} {w : Nat → Nat} {k : Nat} {M : Mm} {ws : Nat → Nat → Nat} {nn tx : Nat → Nat}
theorem z_XS.frac (h : z_XS fi ws nn tx) {A B : Nat} (hA : z_Lv fi' 89 A) (hB : z_Lv fi' 91 B) (hf : ∀ j, j < 89 ∨ 92 < j → fi' j = fi j) : z_XS fi' ws (nf6 nn A B) tx := by
  obtain ⟨hk, hc, hF, ht, hp⟩ := h
  have e : ∀ j, j < 6 → nf6 nn A B j = nn j := fun j hj => by unfold nf6; rw [uh_ne (by omega), uh_ne (by omega)]
  refine ⟨?_, ?_, ⟨?_, ?_⟩, ?_, hp.frame (fun j j1 j2 => hf j (by omega))⟩
  · have := hk.frame (fi' := fi') (fun j hj => hf j (by omega))
    unfold z_XK at *
    rw [e 0 (by decide), e 1 (by decide)]
    exact this
  · unfold z_XC at *
    rw [hf 18 (by omega), e 3 (by decide), e 4 (by decide), e 5 (by decide)]
    exact hc
  · unfold nf6; rw [uh_ne (by decide), uh_same]; exact hA
  · unfold nf6; rw [uh_same]; exact hB
  · rw [e 2 (by decide)]
    exact ht.frame (by rw [hf 84 (by omega)]) (hf 85 (by omega))
theorem p20 : 20 ^ 45 < LB ^ 8 := by decide +kernel
theorem pow_20 {a i : Nat} (ha : a ≤ 20) (hi : i ≤ 45) : a ^ i < LB ^ 8 := by
  by_cases c : a = 0
  · subst c
    by_cases q : i = 0
    · subst q; decide
    · rw [Nat.zero_pow (by omega)]; decide
  · have h1 : a ^ i ≤ 20 ^ i := Nat.pow_le_pow_left ha i
    have h2 : 20 ^ i ≤ 20 ^ 45 := Nat.pow_le_pow_right (by decide) hi
    exact Nat.lt_of_le_of_lt (Nat.le_trans h1 h2) p20
theorem pow_1 {a i : Nat} (ha : a ≤ 200) (hi : i ≤ 1) : a ^ i < LB ^ 8 := by
  have h200 : 200 < LB ^ 8 := by decide
  have : i = 0 ∨ i = 1 := by omega
  rcases this with rfl | rfl
  · rw [Nat.pow_zero]; decide
  · rw [Nat.pow_one]; exact Nat.lt_of_le_of_lt ha h200
theorem iF_100 {v : Nat} (h : v = 100) : iF v = nM 1 := by unfold iF; rw [if_pos h]
theorem iF_n {v : Nat} (h : v ≠ 100) : iF v = nI v := by unfold iF; rw [if_neg h]
theorem sx_burns (hf : z_FR fr) (h : z_XS fi ws nn tx) (hg : z_G ws nn) {x : Int32} (hQ : z_XQ fi fl fr Q (r_burns ws nn x).1 ws (r_burns ws nn x).2 tx) : TT 101 0 [some (.ref 18), some (.int x)] [] (151, fi, fl, fr) Q := by
  have o18 : z_ok 151 18 10 = true := rfl; have o70 : z_ok 151 70 18 = true := rfl; have o71 : z_ok 151 71 19 = true := rfl; have o88 : z_ok 151 88 14 = true := rfl
  have rfs := fun fi Q => sp_refuse (fi := fi) (fl := fl) (fr := fr) (Q := Q) (r := 2) (x := nM 2) (Or.inl rfl)
  have rfn := fun fi Q => sp_refuse (fi := fi) (fl := fl) (fr := fr) (Q := Q) (r := 3) (x := nM 3) (Or.inr (Or.inl rfl))
  unfold r_burns at hQ
  by_cases c : 0 ≤ x.toInt ∧ x.toInt ≤ 20
  · rw [if_pos c] at hQ
    obtain ⟨j, j2, rfl, ej⟩ := i3 (n := 20) c
    rw [ej] at hQ
    simp (disch := first | assumption | rfl | exact zle_0 | exact zle_1 | exact zle_2 | exact zle_3 | exact zle_4 | exact zb_0 | exact zb_1 | exact zb01_B | omega) only [zT101_0, zr_iload_1, zT101_1, zr_if_lt, zT101_4, zT101_5, zr_ic_20, zT101_7, zr_icmp_le, zT101_10, zr_aload_0, zT101_11, zr_ic_m2, zT101_13, zT101_15, zr_iv_117, zT101_18, zr_ret0, zT101_19, zT101_20, zr_gf_5, zr_or, zr_go, zf_18_5, zT101_23, zr_iv_207, zcl_i, zcl_r, zcl_l, zcl_n, zv_some, zv_none, Nat.reduceAdd, Nat.reduceMul, Nat.reduceSub, Nat.reduceLT, Nat.reduceLeDiff, Nat.reduceEqDiff, Int.reduceToNat, true_implies, false_implies, implies_true, and_true, true_and, not_true_eq_false, not_false_eq_true, Nat.zero_add, Nat.add_zero, nI_add, nI_ltI, nI_leI, nI_eq, pk_mul, pk_sub, u2_same, u2_row, u2_other, olt_T, olt_F, ole_T, ole_F, oeq_T, oeq_F]
    refine sx_plan hf h hg (fun f1 g1 g2 g3 => ?_)
    by_cases c0 : a_nw (ws 0) = 100
    · rw [if_pos c0] at hQ
      rw [iF_100 c0]
      have o := z_XQ.ref (fi := f1) (Or.inr (Or.inl rfl)) g1 (fun f' q1 q2 => hQ f' q1 (fun j hj => by rw [q2 j hj, g3 j (by omega)]))
      simp (disch := first | assumption | rfl | exact zle_0 | exact zle_1 | exact zle_2 | exact zle_3 | exact zle_4 | exact zb_0 | exact zb_1 | exact zb01_B | omega) only [zT101_26, zr_ic_m1, zT101_27, zr_icmp_ne, zT101_30, zr_aload_0, zT101_31, zr_ic_m3, zT101_33, zT101_35, zr_iv_117, zT101_38, zr_ret0, zcl_i, zcl_r, zcl_l, zcl_n, zv_some, zv_none, Nat.reduceAdd, Nat.reduceMul, Nat.reduceSub, Nat.reduceLT, Nat.reduceLeDiff, Nat.reduceEqDiff, Int.reduceToNat, true_implies, false_implies, implies_true, and_true, true_and, not_true_eq_false, not_false_eq_true, Nat.zero_add, Nat.add_zero, nI_add, nI_ltI, nI_leI, nI_eq, pk_mul, pk_sub, u2_same, u2_row, u2_other, rfn, olt_T, olt_F, ole_T, ole_F, oeq_T, oeq_F]
      exact o
    · rw [if_neg c0] at hQ
      rw [iF_n c0]
      dsimp only at hQ
      have f0le : a_nw (ws 0) ≤ 45 ∨ a_nw (ws 0) = 100 := a_FW_45 hg.1.1
      have c0' : (nI (a_nw (ws 0)) = nM 1) = False := nM_eqI (by decide) (by decide) (by omega)
      obtain ⟨-, -, rw1⟩ := g2
      rw [show a_FN (ws 0) (a_S (ws 0)) = a_nw (ws 0) from rfl, if_neg c0] at rw1
      have cs := fun Q => sp_countShared (fl := fl) (Q := Q) hf rw1.1
      rw [show cN (shN (a_tmN (ws 0))) (a_nw (ws 0)) 0 = a_shr (ws 0) from rfl] at cs
      have s45 := a_shr_le hg.1.1 c0
      simp (disch := first | assumption | rfl | exact zle_0 | exact zle_1 | exact zle_2 | exact zle_3 | exact zle_4 | exact zb_0 | exact zb_1 | exact zb01_B | omega) only [zT101_26, zr_ic_m1, zT101_27, zr_icmp_ne, zT101_30, zr_aload_0, zT101_31, zr_ic_m3, zT101_33, zT101_35, zr_iv_117, zT101_38, zr_ret0, zT101_39, zT101_40, zr_gf_7, zr_or, zr_go, zf_18_7, zT101_43, zr_ic_20, zT101_45, zr_iload_1, zT101_46, zr_isub, zT101_47, zT101_49, zT101_50, zr_gf_5, zf_18_5, zT101_53, zr_gf_54, zf_70_54, zT101_56, zr_iv_234, zT101_59, zr_iv_163, zcl_i, zcl_r, zcl_l, zcl_n, zv_some, zv_none, Nat.reduceAdd, Nat.reduceMul, Nat.reduceSub, Nat.reduceLT, Nat.reduceLeDiff, Nat.reduceEqDiff, Int.reduceToNat, true_implies, false_implies, implies_true, and_true, true_and, not_true_eq_false, not_false_eq_true, Nat.zero_add, Nat.add_zero, nI_add, nI_ltI, nI_leI, nI_eq, pk_mul, pk_sub, u2_same, u2_row, u2_other, c0', cs, olt_T, olt_F, ole_T, ole_F, oeq_T, oeq_F]
      refine sp_setPower (a := 20 - j) (b := 20) (n := a_shr (ws 0)) hf (by omega) (by decide) (by decide) (by omega) (fun i hi => ⟨pow_20 (Nat.le_trans (Nat.div_le_self _ _) (by omega)) (by omega), pow_20 (Nat.le_trans (Nat.div_le_self _ _) (by omega)) (by omega)⟩) (fun f2 k1 k2 k3 => ?_)
      simp (disch := first | assumption | rfl | exact zle_0 | exact zle_1 | exact zle_2 | exact zle_3 | exact zle_4 | exact zb_0 | exact zb_1 | exact zb01_B | omega) only [zT101_62, zr_ic_1, zT101_63, zr_ret0, zcl_i, zcl_r, zcl_l, zcl_n, zv_some, zv_none, Nat.reduceAdd, Nat.reduceMul, Nat.reduceSub, Nat.reduceLT, Nat.reduceLeDiff, Nat.reduceEqDiff, Int.reduceToNat, true_implies, false_implies, implies_true, and_true, true_and, not_true_eq_false, not_false_eq_true, Nat.zero_add, Nat.add_zero, nI_add, nI_ltI, nI_leI, nI_eq, pk_mul, pk_sub, u2_same, u2_row, u2_other, olt_T, olt_F, ole_T, ole_F, oeq_T, oeq_F]
      exact hQ f2 (g1.frac k1 k2 k3) (fun j hj => by rw [k3 j (by omega), g3 j (by omega)])
  · rw [if_neg c] at hQ
    have o := z_XQ.ref (Or.inl rfl) h hQ
    rcases out2 (n := 20) (by decide) c with n1 | ⟨n1, n2⟩
    · simp (disch := first | assumption | rfl | exact zle_0 | exact zle_1 | exact zle_2 | exact zle_3 | exact zle_4 | exact zb_0 | exact zb_1 | exact zb01_B | omega) only [zT101_0, zr_iload_1, zT101_1, zr_if_lt, zT101_4, zT101_5, zr_ic_20, zT101_7, zr_icmp_le, zT101_10, zr_aload_0, zT101_11, zr_ic_m2, zT101_13, zT101_15, zr_iv_117, zT101_18, zr_ret0, zcl_i, zcl_r, zcl_l, zcl_n, zv_some, zv_none, Nat.reduceAdd, Nat.reduceMul, Nat.reduceSub, Nat.reduceLT, Nat.reduceLeDiff, Nat.reduceEqDiff, Int.reduceToNat, true_implies, false_implies, implies_true, and_true, true_and, not_true_eq_false, not_false_eq_true, Nat.zero_add, Nat.add_zero, nI_add, nI_ltI, nI_leI, nI_eq, pk_mul, pk_sub, u2_same, u2_row, u2_other, n1, rfs, olt_T, olt_F, ole_T, ole_F, oeq_T, oeq_F]
      exact o
    · simp (disch := first | assumption | rfl | exact zle_0 | exact zle_1 | exact zle_2 | exact zle_3 | exact zle_4 | exact zb_0 | exact zb_1 | exact zb01_B | omega) only [zT101_0, zr_iload_1, zT101_1, zr_if_lt, zT101_4, zT101_5, zr_ic_20, zT101_7, zr_icmp_le, zT101_10, zr_aload_0, zT101_11, zr_ic_m2, zT101_13, zT101_15, zr_iv_117, zT101_18, zr_ret0, zcl_i, zcl_r, zcl_l, zcl_n, zv_some, zv_none, Nat.reduceAdd, Nat.reduceMul, Nat.reduceSub, Nat.reduceLT, Nat.reduceLeDiff, Nat.reduceEqDiff, Int.reduceToNat, true_implies, false_implies, implies_true, and_true, true_and, not_true_eq_false, not_false_eq_true, Nat.zero_add, Nat.add_zero, nI_add, nI_ltI, nI_leI, nI_eq, pk_mul, pk_sub, u2_same, u2_row, u2_other, n1, n2, rfs, olt_T, olt_F, ole_T, ole_F, oeq_T, oeq_F]
      exact o
theorem sx_drawn (hf : z_FR fr) (h : z_XS fi ws nn tx) (hg : z_G ws nn) {x y : Int32} (hQ : z_XQ fi fl fr Q (r_drawn ws nn x y).1 ws (r_drawn ws nn x y).2 tx) : TT 102 0 [some (.ref 18), some (.int x), some (.int y)] [] (151, fi, fl, fr) Q := by
  have o18 : z_ok 151 18 10 = true := rfl; have o70 : z_ok 151 70 18 = true := rfl; have o71 : z_ok 151 71 19 = true := rfl
  have rfs := fun fi Q => sp_refuse (fi := fi) (fl := fl) (fr := fr) (Q := Q) (r := 2) (x := nM 10) (Or.inl rfl)
  have rfn := fun fi Q => sp_refuse (fi := fi) (fl := fl) (fr := fr) (Q := Q) (r := 3) (x := nM 20) (Or.inr (Or.inl rfl))
  unfold r_drawn at hQ
  by_cases c : 0 ≤ x.toInt ∧ x.toInt ≤ 20
  · obtain ⟨j, j2, rfl, ej⟩ := i3 (n := 20) c
    by_cases c2 : 0 ≤ y.toInt ∧ y.toInt ≤ 999999
    · rw [if_pos ⟨c.1, c.2, c2.1, c2.2⟩] at hQ
      obtain ⟨s, s2, rfl, es⟩ := i3 (n := 999999) c2
      rw [ej, es] at hQ
      simp (disch := first | assumption | rfl | exact zle_0 | exact zle_1 | exact zle_2 | exact zle_3 | exact zle_4 | exact zb_0 | exact zb_1 | exact zb01_B | omega) only [zT102_0, zr_iload_1, zT102_1, zr_if_lt, zT102_4, zT102_5, zr_ic_20, zT102_7, zr_icmp_gt, zT102_10, zr_iload_2, zT102_11, zT102_14, zT102_15, zr_ic_999999, zT102_17, zr_icmp_le, zT102_20, zr_aload_0, zT102_21, zr_ic_m2, zT102_23, zr_ic_m10, zT102_25, zr_iv_117, zT102_28, zr_ret0, zT102_29, zT102_30, zr_gf_5, zr_or, zr_go, zf_18_5, zT102_33, zr_iv_207, zcl_i, zcl_r, zcl_l, zcl_n, zv_some, zv_none, Nat.reduceAdd, Nat.reduceMul, Nat.reduceSub, Nat.reduceLT, Nat.reduceLeDiff, Nat.reduceEqDiff, Int.reduceToNat, true_implies, false_implies, implies_true, and_true, true_and, not_true_eq_false, not_false_eq_true, Nat.zero_add, Nat.add_zero, nI_add, nI_ltI, nI_leI, nI_eq, pk_mul, pk_sub, u2_same, u2_row, u2_other, olt_T, olt_F, ole_T, ole_F, oeq_T, oeq_F]
      refine sx_plan hf h hg (fun f1 g1 g2 g3 => ?_)
      by_cases c0 : a_nw (ws 0) = 100
      · rw [if_pos c0] at hQ
        rw [iF_100 c0]
        have o := z_XQ.ref (fi := f1) (Or.inr (Or.inl rfl)) g1 (fun f' q1 q2 => hQ f' q1 (fun j hj => by rw [q2 j hj, g3 j (by omega)]))
        simp (disch := first | assumption | rfl | exact zle_0 | exact zle_1 | exact zle_2 | exact zle_3 | exact zle_4 | exact zb_0 | exact zb_1 | exact zb01_B | omega) only [zT102_36, zr_ic_m1, zT102_37, zr_icmp_ne, zT102_40, zr_aload_0, zT102_41, zr_ic_m3, zT102_43, zr_ic_m20, zT102_45, zr_iv_117, zT102_48, zr_ret0, zcl_i, zcl_r, zcl_l, zcl_n, zv_some, zv_none, Nat.reduceAdd, Nat.reduceMul, Nat.reduceSub, Nat.reduceLT, Nat.reduceLeDiff, Nat.reduceEqDiff, Int.reduceToNat, true_implies, false_implies, implies_true, and_true, true_and, not_true_eq_false, not_false_eq_true, Nat.zero_add, Nat.add_zero, nI_add, nI_ltI, nI_leI, nI_eq, pk_mul, pk_sub, u2_same, u2_row, u2_other, rfn, olt_T, olt_F, ole_T, ole_F, oeq_T, oeq_F]
        exact o
      · rw [if_neg c0] at hQ
        rw [iF_n c0]
        have f0le : a_nw (ws 0) ≤ 45 ∨ a_nw (ws 0) = 100 := a_FW_45 hg.1.1
        have c0' : (nI (a_nw (ws 0)) = nM 1) = False := nM_eqI (by decide) (by decide) (by omega)
        obtain ⟨-, -, rw1⟩ := g2
        rw [show a_FN (ws 0) (a_S (ws 0)) = a_nw (ws 0) from rfl, if_neg c0] at rw1
        have fb := fun Q => sp_firstBurnt (fl := fl) (Q := Q) hf rw1.1 j2 (show s < 2147483648 by omega)
        simp (disch := first | assumption | rfl | exact zle_0 | exact zle_1 | exact zle_2 | exact zle_3 | exact zle_4 | exact zb_0 | exact zb_1 | exact zb01_B | omega) only [zT102_36, zr_ic_m1, zT102_37, zr_icmp_ne, zT102_40, zr_aload_0, zT102_41, zr_ic_m3, zT102_43, zr_ic_m20, zT102_45, zr_iv_117, zT102_48, zr_ret0, zT102_49, zT102_50, zr_gf_5, zr_or, zr_go, zf_18_5, zT102_53, zr_gf_54, zf_70_54, zT102_56, zr_iload_1, zT102_57, zr_iload_2, zT102_58, zr_iv_236, zT102_61, zcl_i, zcl_r, zcl_l, zcl_n, zv_some, zv_none, Nat.reduceAdd, Nat.reduceMul, Nat.reduceSub, Nat.reduceLT, Nat.reduceLeDiff, Nat.reduceEqDiff, Int.reduceToNat, true_implies, false_implies, implies_true, and_true, true_and, not_true_eq_false, not_false_eq_true, Nat.zero_add, Nat.add_zero, nI_add, nI_ltI, nI_leI, nI_eq, pk_mul, pk_sub, u2_same, u2_row, u2_other, c0', fb, olt_T, olt_F, ole_T, ole_F, oeq_T, oeq_F]
        exact hQ f1 g1 (fun j hj => g3 j (by omega))
    · rw [if_neg (fun q => c2 ⟨q.2.2.1, q.2.2.2⟩)] at hQ
      have o := z_XQ.ref (Or.inl rfl) h hQ
      rcases out2 (n := 999999) (by decide) c2 with n1 | ⟨n1, n2⟩
      · simp (disch := first | assumption | rfl | exact zle_0 | exact zle_1 | exact zle_2 | exact zle_3 | exact zle_4 | exact zb_0 | exact zb_1 | exact zb01_B | omega) only [zT102_0, zr_iload_1, zT102_1, zr_if_lt, zT102_4, zT102_5, zr_ic_20, zT102_7, zr_icmp_gt, zT102_10, zr_iload_2, zT102_11, zT102_14, zT102_15, zr_ic_999999, zT102_17, zr_icmp_le, zT102_20, zr_aload_0, zT102_21, zr_ic_m2, zT102_23, zr_ic_m10, zT102_25, zr_iv_117, zT102_28, zr_ret0, zcl_i, zcl_r, zcl_l, zcl_n, zv_some, zv_none, Nat.reduceAdd, Nat.reduceMul, Nat.reduceSub, Nat.reduceLT, Nat.reduceLeDiff, Nat.reduceEqDiff, Int.reduceToNat, true_implies, false_implies, implies_true, and_true, true_and, not_true_eq_false, not_false_eq_true, Nat.zero_add, Nat.add_zero, nI_add, nI_ltI, nI_leI, nI_eq, pk_mul, pk_sub, u2_same, u2_row, u2_other, n1, rfs, olt_T, olt_F, ole_T, ole_F, oeq_T, oeq_F]
        exact o
      · simp (disch := first | assumption | rfl | exact zle_0 | exact zle_1 | exact zle_2 | exact zle_3 | exact zle_4 | exact zb_0 | exact zb_1 | exact zb01_B | omega) only [zT102_0, zr_iload_1, zT102_1, zr_if_lt, zT102_4, zT102_5, zr_ic_20, zT102_7, zr_icmp_gt, zT102_10, zr_iload_2, zT102_11, zT102_14, zT102_15, zr_ic_999999, zT102_17, zr_icmp_le, zT102_20, zr_aload_0, zT102_21, zr_ic_m2, zT102_23, zr_ic_m10, zT102_25, zr_iv_117, zT102_28, zr_ret0, zcl_i, zcl_r, zcl_l, zcl_n, zv_some, zv_none, Nat.reduceAdd, Nat.reduceMul, Nat.reduceSub, Nat.reduceLT, Nat.reduceLeDiff, Nat.reduceEqDiff, Int.reduceToNat, true_implies, false_implies, implies_true, and_true, true_and, not_true_eq_false, not_false_eq_true, Nat.zero_add, Nat.add_zero, nI_add, nI_ltI, nI_leI, nI_eq, pk_mul, pk_sub, u2_same, u2_row, u2_other, n1, n2, rfs, olt_T, olt_F, ole_T, ole_F, oeq_T, oeq_F]
        exact o
  · rw [if_neg (fun q => c ⟨q.1, q.2.1⟩)] at hQ
    have o := z_XQ.ref (Or.inl rfl) h hQ
    rcases out2 (n := 20) (by decide) c with n1 | ⟨n1, n2⟩
    · simp (disch := first | assumption | rfl | exact zle_0 | exact zle_1 | exact zle_2 | exact zle_3 | exact zle_4 | exact zb_0 | exact zb_1 | exact zb01_B | omega) only [zT102_0, zr_iload_1, zT102_1, zr_if_lt, zT102_4, zT102_5, zr_ic_20, zT102_7, zr_icmp_gt, zT102_10, zr_iload_2, zT102_11, zT102_14, zT102_15, zr_ic_999999, zT102_17, zr_icmp_le, zT102_20, zr_aload_0, zT102_21, zr_ic_m2, zT102_23, zr_ic_m10, zT102_25, zr_iv_117, zT102_28, zr_ret0, zcl_i, zcl_r, zcl_l, zcl_n, zv_some, zv_none, Nat.reduceAdd, Nat.reduceMul, Nat.reduceSub, Nat.reduceLT, Nat.reduceLeDiff, Nat.reduceEqDiff, Int.reduceToNat, true_implies, false_implies, implies_true, and_true, true_and, not_true_eq_false, not_false_eq_true, Nat.zero_add, Nat.add_zero, nI_add, nI_ltI, nI_leI, nI_eq, pk_mul, pk_sub, u2_same, u2_row, u2_other, n1, rfs, olt_T, olt_F, ole_T, ole_F, oeq_T, oeq_F]
      exact o
    · have n3 : (nI 20 < x) = True := eq_true (by rw [Int32.lt_iff_toInt_lt]; have := of_eq_false n2; rw [Int32.le_iff_toInt_le] at this; omega)
      simp (disch := first | assumption | rfl | exact zle_0 | exact zle_1 | exact zle_2 | exact zle_3 | exact zle_4 | exact zb_0 | exact zb_1 | exact zb01_B | omega) only [zT102_0, zr_iload_1, zT102_1, zr_if_lt, zT102_4, zT102_5, zr_ic_20, zT102_7, zr_icmp_gt, zT102_10, zr_iload_2, zT102_11, zT102_14, zT102_15, zr_ic_999999, zT102_17, zr_icmp_le, zT102_20, zr_aload_0, zT102_21, zr_ic_m2, zT102_23, zr_ic_m10, zT102_25, zr_iv_117, zT102_28, zr_ret0, zcl_i, zcl_r, zcl_l, zcl_n, zv_some, zv_none, Nat.reduceAdd, Nat.reduceMul, Nat.reduceSub, Nat.reduceLT, Nat.reduceLeDiff, Nat.reduceEqDiff, Int.reduceToNat, true_implies, false_implies, implies_true, and_true, true_and, not_true_eq_false, not_false_eq_true, Nat.zero_add, Nat.add_zero, nI_add, nI_ltI, nI_leI, nI_eq, pk_mul, pk_sub, u2_same, u2_row, u2_other, n1, n2, n3, rfs, olt_T, olt_F, ole_T, ole_F, oeq_T, oeq_F]
      exact o
theorem sx_letGo (hf : z_FR fr) (h : z_XS fi ws nn tx) (hg : z_G ws nn) {x : Int32} (hQ : z_XQ fi fl fr Q (r_letGo ws nn x).1 ws (r_letGo ws nn x).2 tx) : TT 103 0 [some (.ref 18), some (.int x), none] [] (151, fi, fl, fr) Q := by
  have o18 : z_ok 151 18 10 = true := rfl; have o19 : z_ok 151 19 16 = true := rfl; have o70 : z_ok 151 70 18 = true := rfl; have o71 : z_ok 151 71 19 = true := rfl; have o88 : z_ok 151 88 14 = true := rfl
  have rfs := fun fi Q => sp_refuse (fi := fi) (fl := fl) (fr := fr) (Q := Q) (r := 2) (x := nM 2) (Or.inl rfl)
  have rfn := fun fi Q => sp_refuse (fi := fi) (fl := fl) (fr := fr) (Q := Q) (r := 3) (x := nM 3) (Or.inr (Or.inl rfl))
  have h0 := hg.1.1.1
  have hc := fun Q => sp_hasCook (fl := fl) (fr := fr) (Q := Q) (x := x) o19 h.1.1.1.1 (show ws 0 0 < 2 ^ 31 by omega)
  unfold r_letGo at hQ
  by_cases c : 0 ≤ x.toInt ∧ x.toInt < ws 0 0
  · rw [if_pos c] at hQ
    rw [decide_eq_true c] at hc
    obtain ⟨ex, lx⟩ := nI_ofInt c.1
    generalize hx : x.toInt.toNat = j at *
    rw [ex] at hc ⊢
    simp (disch := first | assumption | rfl | exact zle_0 | exact zle_1 | exact zle_2 | exact zle_3 | exact zle_4 | exact zb_0 | exact zb_1 | exact zb01_B | omega) only [zT103_0, zr_aload_0, zT103_1, zr_gf_0, zr_or, zr_go, zf_18_0, zf_22_0, zf_42_0, zf_59_0, zf_96_0, zf_116_0, zT103_4, zr_iload_1, zT103_5, zr_iv_184, zT103_8, zr_if_ne, zT103_11, zT103_12, zr_ic_m2, zT103_14, zT103_16, zr_iv_117, zT103_19, zr_ret0, zT103_20, zT103_21, zr_gf_5, zf_18_5, zT103_24, zr_iv_207, zcl_i, zcl_r, zcl_l, zcl_n, zv_some, zv_none, Nat.reduceAdd, Nat.reduceMul, Nat.reduceSub, Nat.reduceLT, Nat.reduceLeDiff, Nat.reduceEqDiff, Int.reduceToNat, true_implies, false_implies, implies_true, and_true, true_and, not_true_eq_false, not_false_eq_true, Nat.zero_add, Nat.add_zero, nI_add, nI_ltI, nI_leI, nI_eq, pk_mul, pk_sub, u2_same, u2_row, u2_other, hc, zB_eq0, reduceCtorEq, olt_T, olt_F, ole_T, ole_F, oeq_T, oeq_F]
    refine sx_plan hf h hg (fun f1 g1 g2 g3 => ?_)
    by_cases c0 : a_nw (ws 0) = 100
    · rw [if_pos c0] at hQ
      rw [iF_100 c0]
      have o := z_XQ.ref (fi := f1) (Or.inr (Or.inl rfl)) g1 (fun f' q1 q2 => hQ f' q1 (fun j hj => by rw [q2 j hj, g3 j (by omega)]))
      simp (disch := first | assumption | rfl | exact zle_0 | exact zle_1 | exact zle_2 | exact zle_3 | exact zle_4 | exact zb_0 | exact zb_1 | exact zb01_B | omega) only [zT103_27, zr_ic_m1, zT103_28, zr_icmp_ne, zT103_31, zr_aload_0, zT103_32, zr_ic_m3, zT103_34, zT103_36, zr_iv_117, zT103_39, zr_ret0, zcl_i, zcl_r, zcl_l, zcl_n, zv_some, zv_none, Nat.reduceAdd, Nat.reduceMul, Nat.reduceSub, Nat.reduceLT, Nat.reduceLeDiff, Nat.reduceEqDiff, Int.reduceToNat, true_implies, false_implies, implies_true, and_true, true_and, not_true_eq_false, not_false_eq_true, Nat.zero_add, Nat.add_zero, nI_add, nI_ltI, nI_leI, nI_eq, pk_mul, pk_sub, u2_same, u2_row, u2_other, rfn, olt_T, olt_F, ole_T, ole_F, oeq_T, oeq_F]
      exact o
    · rw [if_neg c0] at hQ
      rw [iF_n c0]
      dsimp only at hQ
      have f0le : a_nw (ws 0) ≤ 45 ∨ a_nw (ws 0) = 100 := a_FW_45 hg.1.1
      have c0' : (nI (a_nw (ws 0)) = nM 1) = False := nM_eqI (by decide) (by decide) (by omega)
      obtain ⟨-, -, rw1⟩ := g2
      rw [show a_FN (ws 0) (a_S (ws 0)) = a_nw (ws 0) from rfl, if_neg c0] at rw1
      have cs := fun Q => sp_countShared (fl := fl) (Q := Q) hf rw1.1
      have cb := fun Q => sp_countSharedBy (fl := fl) (Q := Q) hf rw1.1 (show j < 6 by omega)
      rw [show cN (shN (a_tmN (ws 0))) (a_nw (ws 0)) 0 = a_shr (ws 0) from rfl] at cs
      rw [show cN (shB (a_tmN (ws 0)) j) (a_nw (ws 0)) 0 = a_shb (ws 0) j from rfl] at cb
      have s45 := a_shr_le hg.1.1 c0
      have b45 := a_shb_le (w := ws 0) (c := j)
      by_cases cz : a_shr (ws 0) = 0
      · rw [if_pos cz] at hQ
        rw [cz] at cs
        simp (disch := first | assumption | rfl | exact zle_0 | exact zle_1 | exact zle_2 | exact zle_3 | exact zle_4 | exact zb_0 | exact zb_1 | exact zb01_B | omega) only [zT103_27, zr_ic_m1, zT103_28, zr_icmp_ne, zT103_31, zr_aload_0, zT103_32, zr_ic_m3, zT103_34, zT103_36, zr_iv_117, zT103_39, zr_ret0, zT103_40, zT103_41, zr_gf_5, zr_or, zr_go, zf_18_5, zT103_44, zr_gf_54, zf_70_54, zT103_47, zr_iv_234, zT103_50, zr_istore_2, zT103_51, zr_iload_2, zT103_52, zr_if_ne, zT103_55, zT103_56, zr_gf_7, zf_18_7, zT103_59, zr_iv_162, zcl_i, zcl_r, zcl_l, zcl_n, zv_some, zv_none, Nat.reduceAdd, Nat.reduceMul, Nat.reduceSub, Nat.reduceLT, Nat.reduceLeDiff, Nat.reduceEqDiff, Int.reduceToNat, true_implies, false_implies, implies_true, and_true, true_and, not_true_eq_false, not_false_eq_true, Nat.zero_add, Nat.add_zero, nI_add, nI_ltI, nI_leI, nI_eq, pk_mul, pk_sub, u2_same, u2_row, u2_other, c0', cs, olt_T, olt_F, ole_T, ole_F, oeq_T, oeq_F]
        refine sp_setZero hf (fun f2 k1 k2 k3 => ?_)
        simp (disch := first | assumption | rfl | exact zle_0 | exact zle_1 | exact zle_2 | exact zle_3 | exact zle_4 | exact zb_0 | exact zb_1 | exact zb01_B | omega) only [zT103_62, zr_goto, zT103_85, zr_ic_1, zT103_86, zr_ret0, zcl_i, zcl_r, zcl_l, zcl_n, zv_some, zv_none, Nat.reduceAdd, Nat.reduceMul, Nat.reduceSub, Nat.reduceLT, Nat.reduceLeDiff, Nat.reduceEqDiff, Int.reduceToNat, true_implies, false_implies, implies_true, and_true, true_and, not_true_eq_false, not_false_eq_true, Nat.zero_add, Nat.add_zero, nI_add, nI_ltI, nI_leI, nI_eq, pk_mul, pk_sub, u2_same, u2_row, u2_other, olt_T, olt_F, ole_T, ole_F, oeq_T, oeq_F]
        exact hQ f2 (g1.frac k1 k2 k3) (fun j hj => by rw [k3 j (by omega), g3 j (by omega)])
      · rw [if_neg cz] at hQ
        simp (disch := first | assumption | rfl | exact zle_0 | exact zle_1 | exact zle_2 | exact zle_3 | exact zle_4 | exact zb_0 | exact zb_1 | exact zb01_B | omega) only [zT103_27, zr_ic_m1, zT103_28, zr_icmp_ne, zT103_31, zr_aload_0, zT103_32, zr_ic_m3, zT103_34, zT103_36, zr_iv_117, zT103_39, zr_ret0, zT103_40, zT103_41, zr_gf_5, zr_or, zr_go, zf_18_5, zT103_44, zr_gf_54, zf_70_54, zT103_47, zr_iv_234, zT103_50, zr_istore_2, zT103_51, zr_iload_2, zT103_52, zr_if_ne, zT103_55, zT103_56, zr_gf_7, zf_18_7, zT103_59, zr_iv_162, zT103_62, zr_goto, zT103_65, zT103_66, zT103_69, zT103_70, zT103_73, zT103_76, zr_iload_1, zT103_77, zr_iv_235, zT103_80, zT103_81, zr_ic_1, zT103_82, zr_iv_163, zcl_i, zcl_r, zcl_l, zcl_n, zv_some, zv_none, Nat.reduceAdd, Nat.reduceMul, Nat.reduceSub, Nat.reduceLT, Nat.reduceLeDiff, Nat.reduceEqDiff, Int.reduceToNat, true_implies, false_implies, implies_true, and_true, true_and, not_true_eq_false, not_false_eq_true, Nat.zero_add, Nat.add_zero, nI_add, nI_ltI, nI_leI, nI_eq, pk_mul, pk_sub, u2_same, u2_row, u2_other, c0', cs, cb, olt_T, olt_F, ole_T, ole_F, oeq_T, oeq_F]
        refine sp_setPower (a := a_shb (ws 0) j) (b := a_shr (ws 0)) (n := 1) hf (by omega) (by omega) (by omega) (by decide) (fun i hi => ⟨pow_1 (Nat.le_trans (Nat.div_le_self _ _) (by omega)) hi, pow_1 (Nat.le_trans (Nat.div_le_self _ _) (by omega)) hi⟩) (fun f2 k1 k2 k3 => ?_)
        simp (disch := first | assumption | rfl | exact zle_0 | exact zle_1 | exact zle_2 | exact zle_3 | exact zle_4 | exact zb_0 | exact zb_1 | exact zb01_B | omega) only [zT103_85, zr_ic_1, zT103_86, zr_ret0, zcl_i, zcl_r, zcl_l, zcl_n, zv_some, zv_none, Nat.reduceAdd, Nat.reduceMul, Nat.reduceSub, Nat.reduceLT, Nat.reduceLeDiff, Nat.reduceEqDiff, Int.reduceToNat, true_implies, false_implies, implies_true, and_true, true_and, not_true_eq_false, not_false_eq_true, Nat.zero_add, Nat.add_zero, nI_add, nI_ltI, nI_leI, nI_eq, pk_mul, pk_sub, u2_same, u2_row, u2_other, olt_T, olt_F, ole_T, ole_F, oeq_T, oeq_F]
        exact hQ f2 (g1.frac k1 k2 k3) (fun j hj => by rw [k3 j (by omega), g3 j (by omega)])
  · rw [if_neg c] at hQ
    rw [decide_eq_false c] at hc
    have o := z_XQ.ref (Or.inl rfl) h hQ
    simp (disch := first | assumption | rfl | exact zle_0 | exact zle_1 | exact zle_2 | exact zle_3 | exact zle_4 | exact zb_0 | exact zb_1 | exact zb01_B | omega) only [zT103_0, zr_aload_0, zT103_1, zr_gf_0, zr_or, zr_go, zf_18_0, zf_22_0, zf_42_0, zf_59_0, zf_96_0, zf_116_0, zT103_4, zr_iload_1, zT103_5, zr_iv_184, zT103_8, zr_if_ne, zT103_11, zT103_12, zr_ic_m2, zT103_14, zT103_16, zr_iv_117, zT103_19, zr_ret0, zcl_i, zcl_r, zcl_l, zcl_n, zv_some, zv_none, Nat.reduceAdd, Nat.reduceMul, Nat.reduceSub, Nat.reduceLT, Nat.reduceLeDiff, Nat.reduceEqDiff, Int.reduceToNat, true_implies, false_implies, implies_true, and_true, true_and, not_true_eq_false, not_false_eq_true, Nat.zero_add, Nat.add_zero, nI_add, nI_ltI, nI_leI, nI_eq, pk_mul, pk_sub, u2_same, u2_row, u2_other, hc, zB_eq0, rfs, olt_T, olt_F, ole_T, ole_F, oeq_T, oeq_F]
    exact o
theorem sx_wages (hf : z_FR fr) (h : z_XS fi ws nn tx) (hg : z_G ws nn) (hQ : z_XQ fi fl fr Q (r_wages (ws 0)) ws nn tx) : TT 104 0 [some (.ref 18)] [] (151, fi, fl, fr) Q := by
  have o18 : z_ok 151 18 10 = true := rfl; have o19 : z_ok 151 19 16 = true := rfl; have o70 : z_ok 151 70 18 = true := rfl; have o71 : z_ok 151 71 19 = true := rfl
  unfold r_wages at hQ
  simp (disch := first | assumption | rfl | exact zle_0 | exact zle_1 | exact zle_2 | exact zle_3 | exact zle_4 | exact zb_0 | exact zb_1 | exact zb01_B | omega) only [zT104_0, zr_aload_0, zT104_1, zr_gf_5, zr_or, zr_go, zf_18_5, zT104_4, zr_iv_207, zcl_i, zcl_r, zcl_l, zcl_n, zv_some, zv_none, Nat.reduceAdd, Nat.reduceMul, Nat.reduceSub, Nat.reduceLT, Nat.reduceLeDiff, Nat.reduceEqDiff, Int.reduceToNat, true_implies, false_implies, implies_true, and_true, true_and, not_true_eq_false, not_false_eq_true, Nat.zero_add, Nat.add_zero, nI_add, nI_ltI, nI_leI, nI_eq, pk_mul, pk_sub, u2_same, u2_row, u2_other, olt_T, olt_F, ole_T, ole_F, oeq_T, oeq_F]
  refine sx_plan hf h hg (fun f1 g1 g2 g3 => ?_)
  by_cases c0 : a_nw (ws 0) = 100
  · rw [if_pos c0] at hQ
    rw [iF_100 c0]
    simp (disch := first | assumption | rfl | exact zle_0 | exact zle_1 | exact zle_2 | exact zle_3 | exact zle_4 | exact zb_0 | exact zb_1 | exact zb01_B | omega) only [zT104_7, zr_ic_m1, zT104_8, zr_icmp_ne, zT104_11, zT104_12, zr_goto, zT104_15, zr_aload_0, zT104_16, zr_gf_5, zr_or, zr_go, zf_18_5, zT104_19, zr_gf_54, zf_70_54, zT104_22, zT104_23, zr_gf_0, zf_18_0, zf_22_0, zf_42_0, zf_59_0, zf_96_0, zf_116_0, zT104_26, zr_iv_237, zT104_29, zr_ret0, zcl_i, zcl_r, zcl_l, zcl_n, zv_some, zv_none, Nat.reduceAdd, Nat.reduceMul, Nat.reduceSub, Nat.reduceLT, Nat.reduceLeDiff, Nat.reduceEqDiff, Int.reduceToNat, true_implies, false_implies, implies_true, and_true, true_and, not_true_eq_false, not_false_eq_true, Nat.zero_add, Nat.add_zero, nI_add, nI_ltI, nI_leI, nI_eq, pk_mul, pk_sub, u2_same, u2_row, u2_other, olt_T, olt_F, ole_T, ole_F, oeq_T, oeq_F]
    exact hQ f1 g1 (fun j hj => g3 j (by omega))
  · rw [if_neg c0] at hQ
    rw [iF_n c0]
    have f0le : a_nw (ws 0) ≤ 45 ∨ a_nw (ws 0) = 100 := a_FW_45 hg.1.1
    have c0' : (nI (a_nw (ws 0)) = nM 1) = False := nM_eqI (by decide) (by decide) (by omega)
    obtain ⟨-, -, rw1⟩ := g2
    rw [show a_FN (ws 0) (a_S (ws 0)) = a_nw (ws 0) from rfl, if_neg c0] at rw1
    have sw := fun Q => sp_sumOfWages (fl := fl) (Q := Q) hf g1.1.1.k0 hg.1.1.1 rw1.1
    simp (disch := first | assumption | rfl | exact zle_0 | exact zle_1 | exact zle_2 | exact zle_3 | exact zle_4 | exact zb_0 | exact zb_1 | exact zb01_B | omega) only [zT104_7, zr_ic_m1, zT104_8, zr_icmp_ne, zT104_11, zT104_12, zr_goto, zT104_15, zr_aload_0, zT104_16, zr_gf_5, zr_or, zr_go, zf_18_5, zT104_19, zr_gf_54, zf_70_54, zT104_22, zT104_23, zr_gf_0, zf_18_0, zf_22_0, zf_42_0, zf_59_0, zf_96_0, zf_116_0, zT104_26, zr_iv_237, zT104_29, zr_ret0, zcl_i, zcl_r, zcl_l, zcl_n, zv_some, zv_none, Nat.reduceAdd, Nat.reduceMul, Nat.reduceSub, Nat.reduceLT, Nat.reduceLeDiff, Nat.reduceEqDiff, Int.reduceToNat, true_implies, false_implies, implies_true, and_true, true_and, not_true_eq_false, not_false_eq_true, Nat.zero_add, Nat.add_zero, nI_add, nI_ltI, nI_leI, nI_eq, pk_mul, pk_sub, u2_same, u2_row, u2_other, c0', sw, olt_T, olt_F, ole_T, ole_F, oeq_T, oeq_F]
    exact hQ f1 g1 (fun j hj => g3 j (by omega))
end

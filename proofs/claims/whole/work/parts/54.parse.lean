/-! the card is parsed -/
def z_It (fi : Nat → Nat → Int32) (Is : List (Nat × List Nat)) : Prop := ∀ i x l, Is[i]? = some (x, l) → fi 86 i = nI x ∧ ∀ j y, l[j]? = some y → fi 87 (5 * i + j) = nI y
section
variable {fi : Nat → Nat → Int32} {fl : Nat → Nat → Int64} {fr : Nat → Nat → Option Nat} {Q : Option Value → Mm → Prop} {w : Nat → Nat} {k : Nat} {M : Mm} {tx : Nat → Nat} {n : Nat}
theorem a_num_q {p v q : Nat} (hb : ∀ i, i < n → tx i < 256) (hpn : p ≤ n) (h1 : a_num tx n p = some (v, q)) : v < 100 ∧ p < q ∧ q ≤ n := by
  unfold a_num at h1
  obtain ⟨r1, r2⟩ := ren_le (tx := tx) (lo := 48) (hi := 57) hpn
  obtain ⟨-, -, e3, -⟩ := ren_spec (tx := tx) (n := n) (lo := 48) (hi := 57) (n - p) p rfl
  by_cases c : ren tx n 48 57 p = p ∨ 2 < ren tx n 48 57 p - p
  · rw [if_pos c] at h1; exact absurd h1 (by simp)
  · rw [if_neg c] at h1
    have h2 := Option.some.inj h1
    have hv : a_val tx (ren tx n 48 57 p - p) p 0 = v := congrArg Prod.fst h2
    have hq : sk tx n (ren tx n 48 57 p) = q := congrArg Prod.snd h2
    have l := ren_le (tx := tx) (lo := 32) (hi := 32) r2
    have hq' : ren tx n 32 32 (ren tx n 48 57 p) = q := hq
    rw [hq'] at l
    refine ⟨?_, by omega, l.2⟩
    rw [← hv]
    have c12 : ren tx n 48 57 p - p = 1 ∨ ren tx n 48 57 p - p = 2 := by omega
    have t0 := e3 p (Nat.le_refl _) (by omega)
    rcases c12 with c12 | c12
    · rw [c12]
      show 10 * 0 + tx p - 48 < _
      omega
    · have t1 := e3 (p + 1) (by omega) (by omega)
      rw [c12]
      show 10 * (10 * 0 + tx p - 48) + tx (p + 1) - 48 < _
      omega
theorem a_nums_q (hb : ∀ i, i < n → tx i < 256) : ∀ k p l r, p ≤ n → a_nums tx n k p = (some l, r) → l.length = k ∧ (∀ y ∈ l, y < 100) ∧ p ≤ r ∧ r ≤ n ∧ (0 < k → p < r)
  | 0, p, l, r, hp, h => by
    unfold a_nums at h
    have h1 : [] = l := Option.some.inj (congrArg Prod.fst h)
    have h2 : p = r := congrArg Prod.snd h
    subst h1 h2
    exact ⟨rfl, fun y hy => absurd hy List.not_mem_nil, Nat.le_refl _, hp, fun h => absurd h (Nat.not_lt_zero _)⟩
  | k + 1, p, l, r, hp, h => by
    rw [a_nums] at h
    cases h1 : a_num tx n p with
    | none => rw [h1] at h; exact absurd (congrArg Prod.fst h) (by simp)
    | some vq =>
      obtain ⟨v, q⟩ := vq
      rw [h1] at h
      dsimp only at h
      obtain ⟨v1, v2, v3⟩ := a_num_q hb hp h1
      cases h2 : a_nums tx n k q with
      | mk a b =>
        rw [h2] at h
        cases a with
        | none => exact absurd (congrArg Prod.fst h) (by simp)
        | some l2 =>
          have e1 : v :: l2 = l := Option.some.inj (congrArg Prod.fst h)
          have e2 : b = r := congrArg Prod.snd h
          subst e1 e2
          obtain ⟨g1, g2, g3, g4, g5⟩ := a_nums_q hb k q l2 b v3 h2
          refine ⟨by rw [List.length_cons, g1], fun y hy => ?_, by omega, g4, fun _ => by omega⟩
          rcases List.mem_cons.mp hy with rfl | hy
          · exact v1
          · exact g2 y hy
theorem isw_len {p e a : Nat} (h : isw tx p e a = true) : e = p + wlen a := by
  unfold isw at h
  exact of_decide_eq_true (Bool.and_eq_true_iff.mp h).1
theorem wd_len {p e : Nat} (h : wd_ tx p e ≠ 5) : p + 4 ≤ e := by
  unfold wd_ at h
  by_cases c7 : isw tx p e 7 = true
  · have := isw_len c7; rw [show wlen 7 = 4 from rfl] at this; omega
  · by_cases c8 : isw tx p e 8 = true
    · have := isw_len c8; rw [show wlen 8 = 4 from rfl] at this; omega
    · by_cases c9 : isw tx p e 9 = true
      · have := isw_len c9; rw [show wlen 9 = 4 from rfl] at this; omega
      · by_cases c10 : isw tx p e 10 = true
        · have := isw_len c10; rw [show wlen 10 = 6 from rfl] at this; omega
        · by_cases c11 : isw tx p e 11 = true
          · have := isw_len c11; rw [show wlen 11 = 6 from rfl] at this; omega
          · rw [if_neg c7, if_neg c8, if_neg c9, if_neg c10, if_neg c11] at h
            exact absurd rfl h
theorem a_item_q (hb : ∀ i, i < n → tx i < 256) {p x r : Nat} {l : List Nat} (hp : p ≤ n) (h : a_item tx n p = (some (x, l), r)) : x < 5 ∧ l.length = nb x ∧ (∀ y ∈ l, y < 100) ∧ p + 5 ≤ r ∧ r ≤ n := by
  unfold a_item at h
  by_cases c : a_wdAt tx n p = 5
  · rw [if_pos c] at h; exact absurd (congrArg Prod.fst h) (by simp)
  · rw [if_neg c] at h
    obtain ⟨e1, e2⟩ := ren_le (tx := tx) (lo := 97) (hi := 122) hp
    obtain ⟨s1, s2⟩ := ren_le (tx := tx) (lo := 32) (hi := 32) e2
    have w5 := wd_le (tx := tx) (p := p) (e := ren tx n 97 122 p)
    have wl := wd_len (tx := tx) (p := p) (e := ren tx n 97 122 p) c
    cases h2 : a_nums tx n (nb (a_wdAt tx n p)) (sk tx n (ren tx n 97 122 p)) with
    | mk a b =>
      rw [h2] at h
      cases a with
      | none => exact absurd (congrArg Prod.fst h) (by simp)
      | some l2 =>
        obtain ⟨g1, g2, g3, g4, -⟩ := a_nums_q hb _ _ _ _ s2 h2
        dsimp only at h
        by_cases c2 : b < n ∧ tx b = 59
        · rw [if_pos c2] at h
          have h3 := Option.some.inj (congrArg Prod.fst h)
          have e3 : a_wdAt tx n p = x := congrArg Prod.fst h3
          have e4 : l2 = l := congrArg Prod.snd h3
          have e5 : b + 1 = r := congrArg Prod.snd h
          subst e3 e4 e5
          exact ⟨by unfold a_wdAt at c ⊢; omega, g1, g2, by omega, by omega⟩
        · rw [if_neg c2] at h; exact absurd (congrArg Prod.fst h) (by simp)
theorem sp_takeItem (hf : z_FR fr) (h : z_Tx fi tx n) {p it : Nat} (hp : fi 84 13 = nI p) (hpn : p ≤ n) (hit : it < 40) (hi : fi 84 16 = nI it)
    (hQ1 : ∀ r, a_item tx n p = (none, r) → ∀ fi', fi' 84 13 = nI r → (∀ f, f ≠ 13 → fi' 84 f = fi 84 f) → (∀ j, j ≠ 84 → j ≠ 86 → j ≠ 87 → fi' j = fi j) → Q (some (.int (zB false))) (151, fi', fl, fr))
    (hQ2 : ∀ x l r, a_item tx n p = (some (x, l), r) → r ≤ n → ∀ fi', fi' 84 13 = nI r → (∀ f, f ≠ 13 → fi' 84 f = fi 84 f) → fi' 86 it = nI x → (∀ j, j < it → fi' 86 j = fi 86 j) → (∀ j y, l[j]? = some y → fi' 87 (5 * it + j) = nI y) → (∀ j, j < 5 * it → fi' 87 j = fi 87 j) → (∀ j, j ≠ 84 → j ≠ 86 → j ≠ 87 → fi' j = fi j) → Q (some (.int (zB true))) (151, fi', fl, fr)) :
    TT 128 0 [some (.ref 84), none, none, none] [] (151, fi, fl, fr) Q := by
  have o84 : z_ok 151 84 11 = true := rfl; have o86 : z_ok 151 86 1 = true := rfl; have o87 : z_ok 151 87 1 = true := rfl
  have l86 : z_al 86 = 40 := rfl; have l87 : z_al 87 = 200 := rfl
  have zt : nI 1 = zB true := rfl
  have zf : nI 0 = zB false := rfl
  have hb : ∀ i, i < n → tx i < 256 := fun i hi => (h.2.2 i hi).1
  simp (disch := first | assumption | rfl | exact zle_0 | exact zle_1 | exact zle_2 | exact zle_3 | exact zle_4 | exact zb_0 | exact zb_1 | exact zb01_B | omega) only [zT128_0, zr_aload_0, zT128_1, zr_iv_129, zcl_i, zcl_r, zcl_l, zcl_n, zv_some, zv_none, Nat.reduceAdd, Nat.reduceMul, Nat.reduceSub, Nat.reduceLT, Nat.reduceLeDiff, Nat.reduceEqDiff, Int.reduceToNat, true_implies, false_implies, implies_true, and_true, true_and, not_true_eq_false, not_false_eq_true, Nat.zero_add, Nat.add_zero, nI_add, nI_ltI, nI_leI, nI_eq, pk_mul, pk_sub, u2_same, u2_row, u2_other, olt_T, olt_F, ole_T, ole_F, oeq_T, oeq_F]
  refine sp_takeWord hf h hp hpn (fun c => ?_) (fun c f1 g1 g2 g3 => ?_)
  · have o := hQ1 p (by unfold a_item; rw [if_pos c]) fi hp (fun _ _ => rfl) (fun _ _ _ _ => rfl)
    simp (disch := first | assumption | rfl | exact zle_0 | exact zle_1 | exact zle_2 | exact zle_3 | exact zle_4 | exact zb_0 | exact zb_1 | exact zb01_B | omega) only [zT128_4, zr_istore_1, zT128_5, zr_iload_1, zT128_6, zr_ic_m1, zT128_7, zr_icmp_eq, zT128_10, zr_aload_0, zT128_11, zr_gf_16, zT128_14, zr_ic_40, zT128_16, zr_icmp_lt, zT128_19, zr_ic_0, zT128_20, zr_ret1_0, zr_ret1_1, zr_ret1_B, zcl_i, zcl_r, zcl_l, zcl_n, zv_some, zv_none, Nat.reduceAdd, Nat.reduceMul, Nat.reduceSub, Nat.reduceLT, Nat.reduceLeDiff, Nat.reduceEqDiff, Int.reduceToNat, true_implies, false_implies, implies_true, and_true, true_and, not_true_eq_false, not_false_eq_true, Nat.zero_add, Nat.add_zero, nI_add, nI_ltI, nI_leI, nI_eq, pk_mul, pk_sub, u2_same, u2_row, u2_other, olt_T, olt_F, ole_T, ole_F, oeq_T, oeq_F]
    exact o
  · have w5 : a_wdAt tx n p < 5 := by have := wd_le (tx := tx) (p := p) (e := ren tx n 97 122 p); unfold a_wdAt at c ⊢; omega
    have nm := nM_eqI (k := 1) (a := a_wdAt tx n p) (by decide) (by decide) (by omega)
    have it1 : f1 84 16 = nI it := by rw [g2 _ (by decide)]; exact hi
    obtain ⟨e1, e2⟩ := ren_le (tx := tx) (lo := 97) (hi := 122) hpn
    obtain ⟨s1, s2⟩ := ren_le (tx := tx) (lo := 32) (hi := 32) e2
    have eI : a_item tx n p = match a_nums tx n (nb (a_wdAt tx n p)) (sk tx n (ren tx n 97 122 p)) with
      | (none, r) => (none, r)
      | (some l, r) => if r < n ∧ tx r = 59 then (some (a_wdAt tx n p, l), r + 1) else (none, r) := by
      unfold a_item; rw [if_neg c]; rfl
    generalize a_wdAt tx n p = x at *
    simp (disch := first | assumption | rfl | exact zle_0 | exact zle_1 | exact zle_2 | exact zle_3 | exact zle_4 | exact zb_0 | exact zb_1 | exact zb01_B | omega) only [zT128_4, zr_istore_1, zT128_5, zr_iload_1, zT128_6, zr_ic_m1, zT128_7, zr_icmp_eq, zT128_10, zr_aload_0, zT128_11, zr_gf_16, zT128_14, zr_ic_40, zT128_16, zr_icmp_lt, zT128_19, zr_ic_0, zT128_20, zr_ret1_0, zr_ret1_1, zr_ret1_B, zT128_21, zT128_22, zr_gf_14, zr_or, zr_go, zf_84_14, zT128_25, zT128_26, zT128_29, zT128_30, zr_iast, zT128_31, zT128_32, zr_istore_2, zcl_i, zcl_r, zcl_l, zcl_n, zv_some, zv_none, Nat.reduceAdd, Nat.reduceMul, Nat.reduceSub, Nat.reduceLT, Nat.reduceLeDiff, Nat.reduceEqDiff, Int.reduceToNat, true_implies, false_implies, implies_true, and_true, true_and, not_true_eq_false, not_false_eq_true, Nat.zero_add, Nat.add_zero, nI_add, nI_ltI, nI_leI, nI_eq, pk_mul, pk_sub, u2_same, u2_row, u2_other, nm, it1, olt_T, olt_F, ole_T, ole_F, oeq_T, oeq_F]
    have ht1 : z_Tx (u2 f1 86 it (nI x)) tx n := h.frame (by simp (disch := decide) only [u2_other]; exact g2 _ (by decide)) (by simp (disch := decide) only [u2_ne]; exact g3 85 (by decide))
    refine sp_nums_ hf w5 hit (nb x) 0 (Nat.zero_add _) _ (sk tx n (ren tx n 97 122 p)) _ ht1 (by simp (disch := decide) only [u2_other]; exact g1) s2 (by simp (disch := decide) only [u2_other]; exact it1) (fun r h2 f2 k1 k2 k3 k4 => hQ1 r (by rw [eI, h2]) f2 k1 (fun f hff => ?_) (fun j j1 j2 j3 => ?_)) (fun l r h2 hr f2 v3 k1 k2 k3 k4 k5 => ?_)
    · rw [k2 f hff]; simp (disch := decide) only [u2_other]; exact g2 f hff
    · rw [k4 j j1 j3]; simp (disch := assumption) only [u2_ne]; exact g3 j j1
    · rw [h2] at eI
      dsimp only at eI
      have ht2 : z_Tx f2 tx n := ht1.frame (by rw [k2 _ (by decide)]) (k5 85 (by decide) (by decide))
      have sm := fun Q => sp_semi (fl := fl) (Q := Q) hf ht2 k1 hr
      have un86 : f2 86 = u2 f1 86 it (nI x) 86 := k5 86 (by decide) (by decide)
      by_cases c2 : r < n ∧ tx r = 59
      · rw [if_pos c2] at eI
        have sm' := fun Q => (sm Q).trans (if_pos c2)
        simp (disch := first | assumption | rfl | exact zle_0 | exact zle_1 | exact zle_2 | exact zle_3 | exact zle_4 | exact zb_0 | exact zb_1 | exact zb01_B | omega) only [zT128_74, zr_aload_0, zT128_75, zr_iv_131, zT128_78, zr_ret1_0, zr_ret1_1, zr_ret1_B, zcl_i, zcl_r, zcl_l, zcl_n, zv_some, zv_none, Nat.reduceAdd, Nat.reduceMul, Nat.reduceSub, Nat.reduceLT, Nat.reduceLeDiff, Nat.reduceEqDiff, Int.reduceToNat, true_implies, false_implies, implies_true, and_true, true_and, not_true_eq_false, not_false_eq_true, Nat.zero_add, Nat.add_zero, nI_add, nI_ltI, nI_leI, nI_eq, pk_mul, pk_sub, u2_same, u2_row, u2_other, sm', olt_T, olt_F, ole_T, ole_F, oeq_T, oeq_F]
        refine hQ2 x l (r + 1) eI (by omega) _ (by rw [u2_same]) (fun f hff => ?_) ?_ (fun j hj => ?_) (fun j y hy => ?_) (fun j hj => ?_) (fun j j1 j2 j3 => ?_)
        · simp (disch := assumption) only [u2_row]; rw [k2 f hff]; simp (disch := decide) only [u2_other]; exact g2 f hff
        · simp (disch := decide) only [u2_other]; rw [un86, u2_same]
        · simp (disch := decide) only [u2_other]; rw [un86]; simp (disch := omega) only [u2_row]; rw [g3 86 (by decide)]
        · simp (disch := decide) only [u2_other]; exact k4 j y hy
        · simp (disch := decide) only [u2_other]; rw [k3 j (by omega)]; simp (disch := decide) only [u2_other]; rw [g3 87 (by decide)]
        · simp (disch := assumption) only [u2_ne]; rw [k5 j j1 j3]; simp (disch := assumption) only [u2_ne]; exact g3 j j1
      · rw [if_neg c2] at eI
        have sm' := fun Q => (sm Q).trans (if_neg c2)
        simp (disch := first | assumption | rfl | exact zle_0 | exact zle_1 | exact zle_2 | exact zle_3 | exact zle_4 | exact zb_0 | exact zb_1 | exact zb01_B | omega) only [zT128_74, zr_aload_0, zT128_75, zr_iv_131, zT128_78, zr_ret1_0, zr_ret1_1, zr_ret1_B, zcl_i, zcl_r, zcl_l, zcl_n, zv_some, zv_none, Nat.reduceAdd, Nat.reduceMul, Nat.reduceSub, Nat.reduceLT, Nat.reduceLeDiff, Nat.reduceEqDiff, Int.reduceToNat, true_implies, false_implies, implies_true, and_true, true_and, not_true_eq_false, not_false_eq_true, Nat.zero_add, Nat.add_zero, nI_add, nI_ltI, nI_leI, nI_eq, pk_mul, pk_sub, u2_same, u2_row, u2_other, sm', olt_T, olt_F, ole_T, ole_F, oeq_T, oeq_F]
        refine hQ1 r eI f2 k1 (fun f hff => ?_) (fun j j1 j2 j3 => ?_)
        · rw [k2 f hff]; simp (disch := decide) only [u2_other]; exact g2 f hff
        · rw [k5 j j1 j3]; simp (disch := assumption) only [u2_ne]; exact g3 j j1
theorem z_It.app {fi' : Nat → Nat → Int32} {P : List (Nat × List Nat)} {x : Nat} {l : List Nat} (h : z_It fi P) (hl : l.length ≤ 5) (hP : ∀ it ∈ P, it.2.length ≤ 5)
    (h1 : fi' 86 P.length = nI x) (h2 : ∀ j, j < P.length → fi' 86 j = fi 86 j) (h3 : ∀ j y, l[j]? = some y → fi' 87 (5 * P.length + j) = nI y) (h4 : ∀ j, j < 5 * P.length → fi' 87 j = fi 87 j) : z_It fi' (P ++ [(x, l)]) := by
  intro i y m hi
  by_cases e : i < P.length
  · rw [List.getElem?_append_left e] at hi
    obtain ⟨q1, q2⟩ := h i y m hi
    refine ⟨by rw [h2 i e]; exact q1, fun j z hj => ?_⟩
    have m5 := hP (y, m) (List.mem_of_getElem? hi)
    have jl : j < m.length := by
      rcases Nat.lt_or_ge j m.length with q | q
      · exact q
      · rw [List.getElem?_eq_none q] at hj; exact absurd hj (by simp)
    have m5' : m.length ≤ 5 := m5
    rw [h4 _ (by omega)]
    exact q2 j z hj
  · rw [List.getElem?_append_right (by omega)] at hi
    have : i - P.length < 1 := by
      rcases Nat.lt_or_ge (i - P.length) 1 with q | q
      · exact q
      · rw [List.getElem?_eq_none (by simpa using q)] at hi
        exact absurd hi (by simp)
    obtain rfl : i = P.length := by omega
    rw [Nat.sub_self] at hi
    have h5 : (x, l) = (y, m) := by simpa using hi
    have e1 : x = y := congrArg Prod.fst h5
    have e2 : l = m := congrArg Prod.snd h5
    subst e1 e2
    exact ⟨h1, h3⟩
/-- an item that can be -/
def okIt (it : Nat × List Nat) : Prop := it.1 < 5 ∧ it.2.length = nb it.1 ∧ ∀ y ∈ it.2, y < 100
theorem sp_parse_ (hf : z_FR fr) : ∀ f i, i + f = 40 → ∀ (fi : Nat → Nat → Int32) (p : Nat) (P : List (Nat × List Nat)), P.length = i → (∀ it ∈ P, okIt it) → z_Tx fi tx n → fi 84 13 = nI p → p ≤ n → fi 84 16 = nI i → z_It fi P →
    (∀ r, a_parse tx n f p = (none, r) → r ≤ 200 → ∀ fi', fi' 84 12 = fi 84 12 → (∀ j, j ≠ 84 → j ≠ 86 → j ≠ 87 → fi' j = fi j) → Q (some (.int (nI r))) (151, fi', fl, fr)) →
    (∀ l r, a_parse tx n f p = (some l, r) → (P ++ l).length ≤ 40 → (∀ it ∈ P ++ l, okIt it) → ∀ fi', fi' 84 12 = fi 84 12 → fi' 84 16 = nI (P ++ l).length → z_It fi' (P ++ l) → (∀ j, j ≠ 84 → j ≠ 86 → j ≠ 87 → fi' j = fi j) → Q (some (.int (nM 1))) (151, fi', fl, fr)) →
    TT 127 16 [some (.ref 84), some (.int (nI i))] [] (151, fi, fl, fr) Q := by
  have o84 : z_ok 151 84 11 = true := rfl
  intro f
  induction f with
  | zero =>
    intro i hi fi p P hPl hok ht hp hpn hit hI hQ1 hQ2
    have o := hQ2 [] 0 rfl (by rw [List.append_nil]; omega) (by rw [List.append_nil]; exact hok) fi rfl (by rw [List.append_nil, hPl]; exact hit) (by rw [List.append_nil]; exact hI) (fun _ _ _ _ => rfl)
    simp (disch := first | assumption | rfl | exact zle_0 | exact zle_1 | exact zle_2 | exact zle_3 | exact zle_4 | exact zb_0 | exact zb_1 | exact zb01_B | omega) only [zT127_16, zr_iload_1, zT127_17, zr_ic_40, zT127_19, zr_icmp_ge, zT127_65, zr_ic_m1, zT127_66, zr_ret0, zcl_i, zcl_r, zcl_l, zcl_n, zv_some, zv_none, Nat.reduceAdd, Nat.reduceMul, Nat.reduceSub, Nat.reduceLT, Nat.reduceLeDiff, Nat.reduceEqDiff, Int.reduceToNat, true_implies, false_implies, implies_true, and_true, true_and, not_true_eq_false, not_false_eq_true, Nat.zero_add, Nat.add_zero, nI_add, nI_ltI, nI_leI, nI_eq, pk_mul, pk_sub, u2_same, u2_row, u2_other, olt_T, olt_F, ole_T, ole_F, oeq_T, oeq_F]
    exact o
  | succ f ih =>
    intro i hi fi p P hPl hok ht hp hpn hit hI hQ1 hQ2
    have n200 := ht.1
    have hb : ∀ i, i < n → tx i < 256 := fun i hi => (ht.2.2 i hi).1
    have len := ht.2.1
    by_cases c : p < n
    · simp (disch := first | assumption | rfl | exact zle_0 | exact zle_1 | exact zle_2 | exact zle_3 | exact zle_4 | exact zb_0 | exact zb_1 | exact zb01_B | omega) only [zT127_16, zr_iload_1, zcl_i, zcl_r, zcl_l, zcl_n, zv_some, zv_none, Nat.reduceAdd, Nat.reduceMul, Nat.reduceSub, Nat.reduceLT, Nat.reduceLeDiff, Nat.reduceEqDiff, Int.reduceToNat, true_implies, false_implies, implies_true, and_true, true_and, not_true_eq_false, not_false_eq_true, Nat.zero_add, Nat.add_zero, nI_add, nI_ltI, nI_leI, nI_eq, pk_mul, pk_sub, u2_same, u2_row, u2_other]
      simp (disch := first | assumption | rfl | exact zle_0 | exact zle_1 | exact zle_2 | exact zle_3 | exact zle_4 | exact zb_0 | exact zb_1 | exact zb01_B | omega) only [zT127_17, zr_ic_40, zT127_19, zr_icmp_ge, zT127_22, zr_aload_0, zT127_23, zr_gf_13, zT127_26, zT127_27, zr_gf_12, zT127_30, zT127_33, zT127_34, zr_iv_128, zcl_i, zcl_r, zcl_l, zcl_n, zv_some, zv_none, Nat.reduceAdd, Nat.reduceMul, Nat.reduceSub, Nat.reduceLT, Nat.reduceLeDiff, Nat.reduceEqDiff, Int.reduceToNat, true_implies, false_implies, implies_true, and_true, true_and, not_true_eq_false, not_false_eq_true, Nat.zero_add, Nat.add_zero, nI_add, nI_ltI, nI_leI, nI_eq, pk_mul, pk_sub, u2_same, u2_row, u2_other, hp, len, olt_T, olt_F, ole_T, ole_F, oeq_T, oeq_F]
      refine sp_takeItem hf ht hp hpn (show i < 40 by omega) hit (fun r h1 f1 g1 g2 g3 => ?_) (fun x l r h1 hr f1 g1 g2 g3 g4 g5 g6 g7 => ?_)
      · have r200 : r ≤ 200 := by
          unfold a_item at h1
          obtain ⟨e1, e2⟩ := ren_le (tx := tx) (lo := 97) (hi := 122) hpn
          obtain ⟨s1, s2⟩ := ren_le (tx := tx) (lo := 32) (hi := 32) e2
          have nr : ∀ k p a r, p ≤ n → a_nums tx n k p = (a, r) → r ≤ n := by
            intro k
            induction k with
            | zero => intro p a r hp h; rw [a_nums] at h; have : p = r := congrArg Prod.snd h; omega
            | succ k ih =>
              intro p a r hp h
              rw [a_nums] at h
              cases h1 : a_num tx n p with
              | none => rw [h1] at h; have : p = r := congrArg Prod.snd h; omega
              | some vq =>
                obtain ⟨v, q⟩ := vq
                rw [h1] at h
                dsimp only at h
                obtain ⟨-, v2, v3⟩ := a_num_q hb hp h1
                cases h2 : a_nums tx n k q with
                | mk a' b' =>
                  rw [h2] at h
                  have := ih q a' b' v3 h2
                  cases a' with
                  | none => have : b' = r := congrArg Prod.snd h; omega
                  | some l2 => have : b' = r := congrArg Prod.snd h; omega
          by_cases c2 : a_wdAt tx n p = 5
          · rw [if_pos c2] at h1; have : p = r := congrArg Prod.snd h1; omega
          · rw [if_neg c2] at h1
            cases h2 : a_nums tx n (nb (a_wdAt tx n p)) (sk tx n (ren tx n 97 122 p)) with
            | mk a' b' =>
              rw [h2] at h1
              have := nr _ _ _ _ s2 h2
              cases a' with
              | none => have : b' = r := congrArg Prod.snd h1; omega
              | some l2 =>
                dsimp only at h1
                by_cases c3 : b' < n ∧ tx b' = 59
                · rw [if_pos c3] at h1; exact absurd (congrArg Prod.fst h1) (by simp)
                · rw [if_neg c3] at h1; have : b' = r := congrArg Prod.snd h1; omega
        have o := hQ1 r (by rw [a_parse, if_pos c, h1]) r200 f1 (g2 _ (by decide)) g3
        simp (disch := first | assumption | rfl | exact zle_0 | exact zle_1 | exact zle_2 | exact zle_3 | exact zle_4 | exact zb_0 | exact zb_1 | exact zb01_B | omega) only [zT127_37, zr_if_ne, zT127_40, zr_aload_0, zT127_41, zr_gf_13, zT127_44, zr_ret0, zcl_i, zcl_r, zcl_l, zcl_n, zv_some, zv_none, Nat.reduceAdd, Nat.reduceMul, Nat.reduceSub, Nat.reduceLT, Nat.reduceLeDiff, Nat.reduceEqDiff, Int.reduceToNat, true_implies, false_implies, implies_true, and_true, true_and, not_true_eq_false, not_false_eq_true, Nat.zero_add, Nat.add_zero, nI_add, nI_ltI, nI_leI, nI_eq, pk_mul, pk_sub, u2_same, u2_row, u2_other, zB_eq0, g1, olt_T, olt_F, ole_T, ole_F, oeq_T, oeq_F]
        exact o
      · obtain ⟨q1, q2, q3, q4, q5⟩ := a_item_q hb hpn h1
        have l5 : l.length ≤ 5 := by rw [q2]; exact nb_le x q1
        have it1 : f1 84 16 = nI i := by rw [g2 _ (by decide)]; exact hit
        have ht1 : z_Tx (u2 f1 84 16 (nI (i + 1))) tx n := ht.frame (by simp (disch := decide) only [u2_row]; exact g2 _ (by decide)) (by simp (disch := decide) only [u2_ne]; exact g7 85 (by decide) (by decide) (by decide))
        have pl1 : u2 f1 84 16 (nI (i + 1)) 84 13 = nI r := by simp (disch := decide) only [u2_row]; exact g1
        have skp := fun Q => sp_skip (fl := fl) (Q := Q) hf ht1 pl1 hr
        obtain ⟨s1, s2⟩ := ren_le (tx := tx) (lo := 32) (hi := 32) hr
        simp (disch := first | assumption | rfl | exact zle_0 | exact zle_1 | exact zle_2 | exact zle_3 | exact zle_4 | exact zb_0 | exact zb_1 | exact zb01_B | omega) only [zT127_37, zr_if_ne, zT127_40, zr_aload_0, zT127_41, zr_gf_13, zT127_44, zr_ret0, zT127_45, zT127_46, zr_dup_r, zr_dup_i, zT127_47, zr_gf_16, zT127_50, zr_ic_1, zT127_51, zr_iadd, zT127_52, zr_pf_16, zT127_55, zT127_56, zr_iv_132, zT127_59, zr_iinc_1_1, zT127_62, zr_goto, zcl_i, zcl_r, zcl_l, zcl_n, zv_some, zv_none, Nat.reduceAdd, Nat.reduceMul, Nat.reduceSub, Nat.reduceLT, Nat.reduceLeDiff, Nat.reduceEqDiff, Int.reduceToNat, true_implies, false_implies, implies_true, and_true, true_and, not_true_eq_false, not_false_eq_true, Nat.zero_add, Nat.add_zero, nI_add, nI_ltI, nI_leI, nI_eq, pk_mul, pk_sub, u2_same, u2_row, u2_other, zB_eq0, reduceCtorEq, it1, skp, olt_T, olt_F, ole_T, ole_F, oeq_T, oeq_F]
        have eP : a_parse tx n (f + 1) p = match a_parse tx n f (sk tx n r) with
          | (none, r2) => (none, r2)
          | (some l2, r2) => (some ((x, l) :: l2), r2) := by
          rw [a_parse, if_pos c, h1]; rfl
        subst hPl
        refine ih (P.length + 1) (by omega) _ (sk tx n r) (P ++ [(x, l)]) (by simp) (fun it hit' => ?_) (ht1.frame (by simp (disch := decide) only [u2_row]) (by simp (disch := decide) only [u2_ne])) (by rw [u2_same]) s2 (by simp (disch := decide) only [u2_row, u2_same]) (hI.app l5 (fun it hit' => by rw [(hok it hit').2.1]; exact nb_le _ (hok it hit').1) ?_ (fun j hj => ?_) (fun j y hy => ?_) (fun j hj => ?_)) (fun r2 h2 hr2 f2 k1 k2 => hQ1 r2 (by rw [eP, h2]) hr2 f2 ?_ (fun j j1 j2 j3 => ?_)) (fun l2 r2 h2 hl2 hok2 f2 k1 k2 k3 k4 => ?_)
        · rcases List.mem_append.mp hit' with hit' | hit'
          · exact hok it hit'
          · rw [List.mem_singleton.mp hit']; exact ⟨q1, q2, q3⟩
        · simp (disch := decide) only [u2_other]; exact g3
        · simp (disch := decide) only [u2_other]; exact g4 j hj
        · simp (disch := decide) only [u2_other]; exact g5 j y hy
        · simp (disch := decide) only [u2_other]; exact g6 j hj
        · rw [k1]; simp (disch := decide) only [u2_row]; exact g2 _ (by decide)
        · rw [k2 j j1 j2 j3]; simp (disch := assumption) only [u2_ne]; exact g7 j j1 j2 j3
        · rw [List.append_assoc] at hl2 hok2 k2 k3
          refine hQ2 ((x, l) :: l2) r2 (by rw [eP, h2]) hl2 hok2 f2 ?_ k2 k3 (fun j j1 j2 j3 => ?_)
          · rw [k1]; simp (disch := decide) only [u2_row]; exact g2 _ (by decide)
          · rw [k4 j j1 j2 j3]; simp (disch := assumption) only [u2_ne]; exact g7 j j1 j2 j3
    · have o := hQ2 [] 0 (by rw [a_parse, if_neg c]) (by rw [List.append_nil]; omega) (by rw [List.append_nil]; exact hok) fi rfl (by rw [List.append_nil, hPl]; exact hit) (by rw [List.append_nil]; exact hI) (fun _ _ _ _ => rfl)
      simp (disch := first | assumption | rfl | exact zle_0 | exact zle_1 | exact zle_2 | exact zle_3 | exact zle_4 | exact zb_0 | exact zb_1 | exact zb01_B | omega) only [zT127_16, zr_iload_1, zT127_17, zr_ic_40, zT127_19, zr_icmp_ge, zT127_22, zr_aload_0, zT127_23, zr_gf_13, zT127_26, zT127_27, zr_gf_12, zT127_30, zT127_65, zr_ic_m1, zT127_66, zr_ret0, zcl_i, zcl_r, zcl_l, zcl_n, zv_some, zv_none, Nat.reduceAdd, Nat.reduceMul, Nat.reduceSub, Nat.reduceLT, Nat.reduceLeDiff, Nat.reduceEqDiff, Int.reduceToNat, true_implies, false_implies, implies_true, and_true, true_and, not_true_eq_false, not_false_eq_true, Nat.zero_add, Nat.add_zero, nI_add, nI_ltI, nI_leI, nI_eq, pk_mul, pk_sub, u2_same, u2_row, u2_other, hp, len, olt_T, olt_F, ole_T, ole_F, oeq_T, oeq_F]
      exact o
theorem sp_parse (hf : z_FR fr) (ht : z_Tx fi tx n)
    (hQ1 : ∀ r, a_parse tx n 40 (sk tx n 0) = (none, r) → r ≤ 200 → ∀ fi', fi' 84 12 = fi 84 12 → (∀ j, j ≠ 84 → j ≠ 86 → j ≠ 87 → fi' j = fi j) → Q (some (.int (nI r))) (151, fi', fl, fr))
    (hQ2 : ∀ l r, a_parse tx n 40 (sk tx n 0) = (some l, r) → l.length ≤ 40 → (∀ it ∈ l, okIt it) → ∀ fi', fi' 84 12 = fi 84 12 → fi' 84 16 = nI l.length → z_It fi' l → (∀ j, j ≠ 84 → j ≠ 86 → j ≠ 87 → fi' j = fi j) → Q (some (.int (nM 1))) (151, fi', fl, fr)) :
    TT 127 0 [some (.ref 84), none] [] (151, fi, fl, fr) Q := by
  have o84 : z_ok 151 84 11 = true := rfl
  have ht1 : z_Tx (u2 (u2 fi 84 13 (nI 0)) 84 16 (nI 0)) tx n := ht.frame (by simp (disch := decide) only [u2_row]) (by simp (disch := decide) only [u2_ne])
  have skp := fun Q => sp_skip (fl := fl) (Q := Q) hf ht1 (p := 0) (by simp (disch := decide) only [u2_row, u2_same]) (Nat.zero_le _)
  obtain ⟨s1, s2⟩ := ren_le (tx := tx) (n := n) (lo := 32) (hi := 32) (Nat.zero_le _)
  simp (disch := first | assumption | rfl | exact zle_0 | exact zle_1 | exact zle_2 | exact zle_3 | exact zle_4 | exact zb_0 | exact zb_1 | exact zb01_B | omega) only [zT127_0, zr_aload_0, zT127_1, zr_ic_0, zT127_2, zr_pf_13, zT127_5, zT127_6, zT127_7, zr_pf_16, zT127_10, zT127_11, zr_iv_132, zT127_14, zT127_15, zr_istore_1, zcl_i, zcl_r, zcl_l, zcl_n, zv_some, zv_none, Nat.reduceAdd, Nat.reduceMul, Nat.reduceSub, Nat.reduceLT, Nat.reduceLeDiff, Nat.reduceEqDiff, Int.reduceToNat, true_implies, false_implies, implies_true, and_true, true_and, not_true_eq_false, not_false_eq_true, Nat.zero_add, Nat.add_zero, nI_add, nI_ltI, nI_leI, nI_eq, pk_mul, pk_sub, u2_same, u2_row, u2_other, skp, olt_T, olt_F, ole_T, ole_F, oeq_T, oeq_F]
  refine sp_parse_ hf 40 0 rfl _ (sk tx n 0) [] rfl (fun it hit => absurd hit List.not_mem_nil) (ht1.frame (by simp (disch := decide) only [u2_row]) (by simp (disch := decide) only [u2_ne])) (by rw [u2_same]) s2 (by simp (disch := decide) only [u2_row, u2_same]) (fun i x l hi => absurd hi (by simp)) (fun r h1 hr f1 k1 k2 => hQ1 r h1 hr f1 ?_ (fun j j1 j2 j3 => ?_)) (fun l r h1 hl hok f1 k1 k2 k3 k4 => hQ2 l r h1 hl hok f1 ?_ k2 k3 (fun j j1 j2 j3 => ?_))
  · rw [k1]; simp (disch := decide) only [u2_row]
  · rw [k2 j j1 j2 j3]; simp (disch := assumption) only [u2_ne]
  · rw [k1]; simp (disch := decide) only [u2_row]
  · rw [k4 j j1 j2 j3]; simp (disch := assumption) only [u2_ne]
end

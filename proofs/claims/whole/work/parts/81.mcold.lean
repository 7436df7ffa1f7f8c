/-! the model's cold (the first part holds no code) -/
def mC (w : Nat → Nat) : Nat → Nat → Nat
  | 0, s => if s = a_E w then 0 else 100000
  | L + 1, s => lst 100000 (fun q => mC w L (nx s q) + pop (a_dni w (nx s q) &&& q) * L) (a_mvN w s) 8 0
section
variable {w : Nat → Nat} {s q L : Nat}
theorem pop_bits : ∀ x, x < 8 → pop x = (if a_bit x 0 then 1 else 0) + ((if a_bit x 1 then 1 else 0) + (if a_bit x 2 then 1 else 0)) := by decide +kernel
theorem mv_E0 (hw : a_WF w) : a_mvN w (a_E w) 0 = true := by
  have z : ∀ d, a_bit 0 d = false := fun d => by rw [a_bit_test]; simp
  have pE : ∀ d, d < 3 → plc (a_E w) d = a_tot w d := by
    intro d hd
    have t : ∀ d, d < 3 → a_tot w d ≤ 15 := fun d hd => a_tot_le (hw.2.2.2.1 d hd).1
    obtain ⟨p0, p1, p2, p3⟩ := plc_of (i := a_tot w 0) (j := a_tot w 1) (k := a_tot w 2) (by have := t 0 (by decide); omega) (by have := t 1 (by decide); omega) (by have := t 2 (by decide); omega)
    have : d = 0 ∨ d = 1 ∨ d = 2 := by omega
    unfold a_E
    rcases this with rfl | rfl | rfl
    · exact p0
    · exact p1
    · exact p2
  unfold a_mvN
  rw [a_mv_iff hw (by decide)]
  refine ⟨fun d hd h => by rw [z] at h; exact absurd h (by decide), fun d hd h => ?_, ?_⟩
  · unfold a_bg at h
    rw [pE d hd] at h
    have := of_decide_eq_true h
    omega
  · have at3 : ∀ d, d < 3 → a_at (a_kst w (a_E w) ||| (z_stT 4).getD 0 0) d = 3 := fun d hd => by
      rw [a_out_at _ (a_kst_lt hw) 0 (by decide) d hd, z, if_neg (by decide)]
    have sm : ∀ d, d < 3 → ¬ 3 < a_sm w d := fun d hd => by have := (hw.2.2.2.1 d hd).1.1; omega
    have n0 : ∀ f : Nat → Nat → Nat, (∀ d, d < 3 → f d 3 = 0) → n_sum f (a_kst w (a_E w) ||| (z_stT 4).getD 0 0) 3 = 0 := by
      intro f hf
      show 0 + f 0 _ + f 1 _ + f 2 _ = 0
      rw [at3 0 (by decide), at3 1 (by decide), at3 2 (by decide), hf 0 (by decide), hf 1 (by decide), hf 2 (by decide)]
    unfold a_en a_enough
    rw [n0 (n_kn w) (fun d hd => by unfold n_kn; rw [if_neg (sm d hd)]), n0 (n_sr w) (fun d hd => by unfold n_sr; rw [if_neg (sm d hd)]), n0 (n_br w) (fun d hd => by unfold n_br; rw [if_neg (sm d hd)]), n0 (n_sl w) (fun d hd => by unfold n_sl; rw [if_neg (sm d hd)]), n0 (n_bl w) (fun d hd => by unfold n_bl; rw [if_neg (sm d hd)]), Bool.and_eq_true_iff]
    refine ⟨decide_eq_true (Nat.zero_le _), ?_⟩
    unfold a_cov
    refine decide_eq_true ⟨Nat.zero_le _, Nat.zero_le _, ?_⟩
    omega
theorem nx_0 : nx s 0 = s := rfl
theorem a_bit_mono {a b d : Nat} : a_bit (a &&& b) d = (a_bit a d && a_bit b d) := a_bit_and a b d
theorem dn_nx (hw : a_WF w) (hs : isSt w s) (q8 : q < 8) (hm : ∀ d, d < 3 → a_bit q d = true → plc s d < a_tot w d) : a_dn w (nx s q) (w 13) 0 = a_dn w s (w 13) 0 + pop (a_dni w (nx s q) &&& q) := by
  have t : ∀ d, d < 3 → a_tot w d ≤ 15 := fun d hd => a_tot_le (hw.2.2.2.1 d hd).1
  obtain ⟨n1, n2⟩ := nx_plc hs.1 q8 (fun d hd hbd => Nat.lt_of_lt_of_le (hm d hd hbd) (t d hd))
  have dl : a_dni w (nx s q) < 8 := msk_lt _ 3
  have x8 : a_dni w (nx s q) &&& q < 8 := Nat.lt_of_le_of_lt Nat.and_le_left dl
  have bd : ∀ d, d < 3 → a_bit (a_dni w (nx s q) &&& q) d = (decide (plc (nx s q) d = a_tot w d) && a_bit q d) := fun d hd => by
    rw [a_bit_and]
    unfold a_dni
    rw [msk_bit, decide_eq_true hd, Bool.true_and]
  have one : ∀ d, d < 3 → (if plc (nx s q) d = a_tot w d then 1 else 0) = (if plc s d = a_tot w d then 1 else 0) + (if a_bit (a_dni w (nx s q) &&& q) d then 1 else 0) := by
    intro d hd
    rw [bd d hd, n2 d hd]
    have m := hm d hd
    cases c : a_bit q d
    · simp
    · have := m c
      simp only [if_true, Bool.and_true, decide_eq_true_iff]
      rw [if_neg (show ¬ plc s d = a_tot w d by omega)]
      omega
  have off : ∀ d, d < 3 → w 13 ≤ d → (if a_bit (a_dni w (nx s q) &&& q) d then 1 else 0) = 0 := by
    intro d hd h
    rw [bd d hd]
    cases c : a_bit q d
    · simp
    · have := hm d hd c
      have z := tot_0 hw hd h
      omega
  rw [pop_bits _ x8]
  have o0 := one 0 (by decide)
  have o1 := one 1 (by decide)
  have o2 := one 2 (by decide)
  have f0 := off 0 (by decide)
  have f1 := off 1 (by decide)
  have f2 := off 2 (by decide)
  have h13 := hw.2.2.1
  have u : ∀ t m d, a_dn w t (m + 1) d = (if plc t d = a_tot w d then 1 else 0) + a_dn w t m (d + 1) := fun _ _ _ => rfl
  have u0 : ∀ t d, a_dn w t 0 d = 0 := fun _ _ => rfl
  have : w 13 = 0 ∨ w 13 = 1 ∨ w 13 = 2 ∨ w 13 = 3 := by omega
  rcases this with e | e | e | e <;> rw [e] at f0 f1 f2 ⊢ <;> simp only [u, u0, Nat.zero_add, Nat.reduceAdd] <;> omega
theorem lst_rel {fA fB : Nat → Nat} {ok : Nat → Bool} {K : Nat} (hK : K ≤ 200) (h : ∀ q, q < 8 → ok q = true → (fA q = fB q + K ∧ fA q ≤ 200) ∨ (fA q = 1000000 ∧ 100000 ≤ fB q)) (hx : ∃ q, q < 8 ∧ ok q = true ∧ fA q ≤ 200) :
    lst 1000000 fA ok 8 0 = lst 100000 fB ok 8 0 + K ∧ ∃ q, q < 8 ∧ ok q = true ∧ lst 1000000 fA ok 8 0 = fA q ∧ fA q ≤ 200 := by
  obtain ⟨a1, a2, a3⟩ := lst_spec (N := 1000000) (f := fA) (ok := ok) 8 0
  obtain ⟨b1, b2, b3⟩ := lst_spec (N := 100000) (f := fB) (ok := ok) 8 0
  obtain ⟨x, x1, x2, x3⟩ := hx
  have ax := a2 x (Nat.zero_le _) (by omega) x2
  have bx := b2 x (Nat.zero_le _) (by omega) x2
  have hxx := h x x1 x2
  generalize lst 1000000 fA ok 8 0 = A at *
  generalize lst 100000 fB ok 8 0 = B at *
  obtain ⟨i, -, i1, i2, i3⟩ : ∃ j, 0 ≤ j ∧ j < 0 + 8 ∧ ok j = true ∧ A = fA j := by
    rcases a3 with a3 | a3
    · omega
    · exact a3
  obtain ⟨k, -, k1, k2, k3⟩ : ∃ j, 0 ≤ j ∧ j < 0 + 8 ∧ ok j = true ∧ B = fB j := by
    rcases b3 with b3 | b3
    · omega
    · exact b3
  have hi := h i (by omega) i2
  have hk := h k (by omega) k2
  have bi := b2 i (Nat.zero_le _) i1 i2
  have ak := a2 k (Nat.zero_le _) k1 k2
  refine ⟨by omega, i, by omega, i2, i3, by omega⟩
theorem lst_far {fB : Nat → Nat} {ok : Nat → Bool} (h : ∀ q, q < 8 → ok q = true → 100000 ≤ fB q) : lst 100000 fB ok 8 0 = 100000 := by
  obtain ⟨b1, b2, b3⟩ := lst_spec (N := 100000) (f := fB) (ok := ok) 8 0
  rcases b3 with b3 | ⟨k, -, k1, k2, k3⟩
  · exact b3
  · have := h k (by omega) k2
    omega
theorem mC_rel (hw : a_WF w) : ∀ L, L ≤ 60 → ∀ s, isSt w s → (a_FN w s ≤ L → a_C w L s = mC w L s + L * a_dn w s (w 13) 0 ∧ a_C w L s ≤ 3 * L) ∧ (L < a_FN w s → mC w L s = 100000 ∧ a_C w L s = 1000000)
  | 0, _, s, hs => by
    have sys := a_sys2 hw (en := a_en w (w 54))
    unfold a_C mC
    by_cases c : s = a_E w
    · rw [if_pos c, if_pos c]
      refine ⟨fun _ => ⟨by omega, by omega⟩, fun h => ?_⟩
      subst c
      have : a_FN w (a_E w) = 0 := a_F_E sys hs
      omega
    · rw [if_neg c, if_neg c]
      refine ⟨fun h => ?_, fun _ => ⟨rfl, rfl⟩⟩
      have : a_FN w s ≠ 0 := a_F_ne sys hs c
      omega
  | L + 1, h60, s, hs => by
    have sys := a_sys2 hw (en := a_en w (w 54))
    have ih := mC_rel hw L (by omega)
    have d3 := a_dn_le (w := w) (s := s) (w 13) 0
    have h13 := hw.2.2.1
    have st : ∀ q, q < 8 → a_mvN w s q = true → isSt w (nx s q) ∧ a_FN w s ≤ a_FN w (nx s q) + 1 := by
      intro q q8 hq
      by_cases c0 : q = 0
      · subst c0
        rw [nx_0]
        exact ⟨hs, by omega⟩
      · exact ⟨(sys.2 s q hs (by omega) q8 hq).1, a_F_up (E := a_E w) sys hs (by omega) q8 hq⟩
    unfold a_C mC
    by_cases cf : a_FN w s ≤ L + 1
    · rw [if_pos cf]
      refine ⟨fun _ => ?_, fun h => by omega⟩
      obtain ⟨r1, q, q8, q2, q3, q4⟩ := lst_rel (fA := fun q => a_C w L (nx s q)) (fB := fun q => mC w L (nx s q) + pop (a_dni w (nx s q) &&& q) * L) (ok := a_mvN w s) (K := L * a_dn w s (w 13) 0) (by
        have : L * a_dn w s (w 13) 0 ≤ 60 * 3 := Nat.mul_le_mul (by omega) (by omega)
        omega) (fun q q8 hq => by
        obtain ⟨n1, n2⟩ := st q q8 hq
        obtain ⟨i1, i2⟩ := ih _ n1
        have mv : ∀ d, d < 3 → a_bit q d = true → plc s d < a_tot w d := ((a_mv_iff hw q8).mp hq).1
        have dd := dn_nx hw hs q8 mv
        rcases Nat.lt_or_ge L (a_FN w (nx s q)) with c | c
        · obtain ⟨m1, m2⟩ := i2 c
          exact Or.inr ⟨m2, by rw [m1]; omega⟩
        · obtain ⟨m1, m2⟩ := i1 c
          refine Or.inl ⟨?_, by omega⟩
          show a_C w L (nx s q) = _
          rw [m1, dd, Nat.mul_add, Nat.mul_comm (pop _) L]
          omega) (by
        by_cases cE : s = a_E w
        · refine ⟨0, by decide, by rw [cE]; exact mv_E0 hw, ?_⟩
          have := (ih s hs).1 (by rw [cE]; rw [show a_FN w (a_E w) = 0 from a_F_E sys (isSt_E hw)]; omega)
          show a_C w L (nx s 0) ≤ 200
          rw [nx_0]
          omega
        · obtain ⟨q, q1, q8, q2, q3⟩ := a_F_dn sys hs cE (show a_F (a_mv w (a_en w (w 54))) (a_E w) s ≠ 100 by
            have : a_F (a_mv w (a_en w (w 54))) (a_E w) s = a_FN w s := rfl
            omega)
          obtain ⟨n1, n2⟩ := st q q8 q2
          have q3' : a_FN w (nx s q) + 1 = a_FN w s := q3
          have := (ih _ n1).1 (by omega)
          exact ⟨q, q8, q2, by show a_C w L (nx s q) ≤ 200; omega⟩)
      obtain ⟨n1, n2⟩ := st q q8 q2
      have q3' : lst 1000000 (fun q => a_C w L (nx s q)) (a_mvN w s) 8 0 = a_C w L (nx s q) := q3
      have fin : a_C w L (nx s q) ≤ 3 * L := by
        rcases Nat.lt_or_ge L (a_FN w (nx s q)) with c | c
        · have := ((ih _ n1).2 c).2
          have q4' : a_C w L (nx s q) ≤ 200 := q4
          omega
        · exact ((ih _ n1).1 c).2
      rw [r1] at q3' ⊢
      rw [Nat.add_mul, Nat.one_mul]
      exact ⟨by omega, by omega⟩
    · rw [if_neg cf]
      refine ⟨fun h => absurd h cf, fun h => ⟨lst_far (fun q q8 hq => ?_), rfl⟩⟩
      obtain ⟨n1, n2⟩ := st q q8 hq
      rw [((ih _ n1).2 (by omega)).1]
      omega
theorem mC_le (L s : Nat) : mC w L s ≤ 100000 := by
  cases L with
  | zero => unfold mC; split <;> omega
  | succ L => exact (lst_spec 8 0).1
end

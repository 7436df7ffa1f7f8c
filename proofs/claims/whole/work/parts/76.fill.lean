/-! some dishes alone: the others stand at their end (no code here) -/
def a_fill (w : Nat → Nat) (some_ s : Nat) : Nat := (if a_bit some_ 0 then plc s 0 else a_tot w 0) + (16 * (if a_bit some_ 1 then plc s 1 else a_tot w 1) + 256 * (if a_bit some_ 2 then plc s 2 else a_tot w 2))
section
variable {w : Nat → Nat} {some_ s q : Nat}
theorem a_fill_plc (hw : a_WF w) (hs : isSt w s) : a_fill w some_ s < 4096 ∧ ∀ d, d < 3 → plc (a_fill w some_ s) d = if a_bit some_ d then plc s d else a_tot w d := by
  have t : ∀ d, d < 3 → (if a_bit some_ d then plc s d else a_tot w d) < 16 := fun d hd => by
    have := a_tot_le (hw.2.2.2.1 d hd).1
    have := hs.2 d hd
    split <;> omega
  obtain ⟨p0, p1, p2, p3⟩ := plc_of (t 0 (by decide)) (t 1 (by decide)) (t 2 (by decide))
  refine ⟨p3, fun d hd => ?_⟩
  have : d = 0 ∨ d = 1 ∨ d = 2 := by omega
  rcases this with rfl | rfl | rfl
  · exact p0
  · exact p1
  · exact p2
theorem isSt_fill (hw : a_WF w) (hs : isSt w s) : isSt w (a_fill w some_ s) := by
  obtain ⟨h1, h2⟩ := a_fill_plc hw hs (some_ := some_)
  refine ⟨h1, fun d hd => ?_⟩
  rw [h2 d hd]
  have := hs.2 d hd
  split <;> omega
theorem isSt_E (hw : a_WF w) : isSt w (a_E w) := ⟨(a_box_E hw).1, fun d hd => ((a_box_E hw).2 d hd).2⟩
theorem isSt_box {s : Nat} (h : a_box w s) : isSt w s := ⟨h.1, fun d hd => (h.2 d hd).2⟩
theorem plc_ext {s t : Nat} (hs : s < 4096) (ht : t < 4096) (h : ∀ d, d < 3 → plc s d = plc t d) : s = t := by
  rw [plc_sum hs, plc_sum ht, h 0 (by decide), h 1 (by decide), h 2 (by decide)]
theorem a_fill_all (hw : a_WF w) (hs : isSt w s) (ha : ∀ d, d < 3 → a_bit some_ d = true ∨ a_tot w d = 0) : a_fill w some_ s = s := by
  obtain ⟨h1, h2⟩ := a_fill_plc hw hs (some_ := some_)
  refine plc_ext h1 hs.1 (fun d hd => ?_)
  rw [h2 d hd]
  rcases ha d hd with h | h
  · rw [if_pos h]
  · have := hs.2 d hd
    split <;> omega
theorem a_rm_nx2 (hs : isSt w s) (ht : ∀ d, d < 3 → a_tot w d ≤ 15) (h1 : 1 ≤ q) (h8 : q < 8) (hm : ∀ d, d < 3 → a_bit q d = true → plc s d < a_tot w d) : isSt w (nx s q) ∧ a_rm w (nx s q) < a_rm w s := by
  obtain ⟨n1, n2⟩ := nx_plc hs.1 h8 (fun d hd h => Nat.lt_of_lt_of_le (hm d hd h) (ht d hd))
  have m0 := hm 0 (by decide)
  have m1 := hm 1 (by decide)
  have m2 := hm 2 (by decide)
  have b0 := hs.2 0 (by decide)
  have b1 := hs.2 1 (by decide)
  have b2 := hs.2 2 (by decide)
  have p0 := n2 0 (by decide)
  have p1 := n2 1 (by decide)
  have p2 := n2 2 (by decide)
  have b8 := bit8 q h1 h8
  unfold a_rm
  rw [p0, p1, p2]
  refine ⟨⟨n1, fun d hd => ?_⟩, ?_⟩
  · rw [n2 d hd]
    have bd := hs.2 d hd
    have md := hm d hd
    cases e : a_bit q d
    · simp only [Bool.false_eq_true, if_false]; omega
    · have := md e
      simp only [if_true]; omega
  · cases e0 : a_bit q 0 <;> cases e1 : a_bit q 1 <;> cases e2 : a_bit q 2 <;> simp only [e0, e1, e2, if_true, if_false, Bool.false_eq_true, true_implies, false_implies, or_self, or_true, true_or, false_or, or_false] at * <;> omega
theorem a_sys2 (hw : a_WF w) {en : Nat → Bool} : z_sys (a_mv w en) (isSt w) (a_rm w) := by
  have t : ∀ d, d < 3 → a_tot w d ≤ 15 := fun d hd => a_tot_le (hw.2.2.2.1 d hd).1
  refine ⟨fun s hs => ?_, fun s set hb h1 h8 hm => a_rm_nx2 hb t h1 h8 ((a_mv_iff hw h8).mp hm).1⟩
  have t0 := t 0 (by decide)
  have t1 := t 1 (by decide)
  have t2 := t 2 (by decide)
  unfold a_rm
  omega
/-- what may go on with some alone is what may go on where the others are done -/
theorem a_may_mv (hw : a_WF w) {hl : Nat → Nat} {er el : Nat} (h8 : some_ < 8) (hs : isSt w s) (q8 : q < 8) : a_bit (a_may w (a_enough w hl er el) some_ s) q = a_mv w (a_enough w hl er el) (a_fill w some_ s) q := by
  obtain ⟨f1, f2⟩ := a_fill_plc hw hs (some_ := some_)
  have hlt := a_lf_lt (w := w) (s := s) h8
  have mlt := a_mu_lt (w := w) (some_ := some_) (s := s) hw.2.2.1
  unfold a_may
  rw [msk_bit, decide_eq_true q8, Bool.true_and, Bool.eq_iff_iff, a_mv_iff hw q8]
  unfold a_okS
  rw [Bool.and_eq_true_iff, Bool.and_eq_true_iff, decide_eq_true_iff, decide_eq_true_iff, a_sub8 q8 hlt, a_sub8 mlt q8]
  have e1 : (∀ j, j < 3 → a_bit q j = true → a_bit (a_lf w some_ s) j = true) ↔ (∀ d, d < 3 → a_bit q d = true → plc (a_fill w some_ s) d < a_tot w d) := by
    refine forall_congr' (fun d => ?_)
    constructor
    · intro h hd hb
      have := h hd hb
      rw [a_lf_bit hd, Bool.and_eq_true_iff] at this
      have ne : plc s d ≠ a_tot w d := by simpa using this.2
      rw [f2 d hd, if_pos this.1]
      have := hs.2 d hd
      omega
    · intro h hd hb
      have := h hd hb
      rw [f2 d hd] at this
      rw [a_lf_bit hd]
      cases c : a_bit some_ d
      · rw [c] at this; simp at this
      · rw [c] at this
        simp only [if_true] at this
        rw [decide_eq_false (by omega)]
        rfl
  have e2 : (∀ j, j < 3 → a_bit (a_mu w some_ s) j = true → a_bit q j = true) ↔ (∀ d, d < 3 → a_bg w d (plc (a_fill w some_ s) d) = true → a_bit q d = true) := by
    have eq : ∀ d, d < 3 → (a_bit (a_mu w some_ s) d = true ↔ a_bg w d (plc (a_fill w some_ s) d) = true) := by
      intro d hd
      unfold a_mu
      rw [msk_bit, Bool.and_eq_true_iff, decide_eq_true_iff, Bool.and_eq_true_iff, decide_eq_true_iff, a_lf_bit hd, Bool.and_eq_true_iff]
      unfold a_bg
      rw [decide_eq_true_iff, f2 d hd]
      have hsd := hs.2 d hd
      constructor
      · rintro ⟨g1, ⟨g2, g3⟩, g4⟩
        have ne : plc s d ≠ a_tot w d := by simpa using g3
        rw [if_pos g2]
        exact ⟨by omega, g4⟩
      · rintro ⟨g1, g2⟩
        cases c : a_bit some_ d
        · rw [c] at g1; simp at g1
        · rw [c] at g1 g2
          simp only [if_true] at g1 g2
          refine ⟨?_, ⟨rfl, by simp; omega⟩, g2⟩
          rcases Nat.lt_or_ge d (w 13) with r | r
          · exact r
          · have sm := (hw.2.2.2.1 d hd).2.1 r
            unfold a_tot at g1
            rw [sm] at g1
            simp at g1
    constructor
    · intro h j hj hb; exact h j hj ((eq j hj).mpr hb)
    · intro h j hj hb; exact h j hj ((eq j hj).mp hb)
  rw [e1, e2]
  have e3 : (∀ d, d < 3 → a_bit q d = true → plc (a_fill w some_ s) d < a_tot w d) → a_enough w hl er el (a_keyS w s q) = a_enough w hl er el (a_kst w (a_fill w some_ s) ||| (z_stT 4).getD q 0) := by
    intro h
    refine a_enough_congr (fun d hd => ?_)
    rw [a_keyS_at hw q8 hd, a_out_at _ (a_kst_lt hw) q q8 d hd, a_kst_at hw d hd]
    cases c : a_bit q d
    · rfl
    · have := h d hd c
      rw [f2 d hd] at this ⊢
      cases c2 : a_bit some_ d
      · rw [c2] at this; simp at this
      · rfl
  constructor
  · rintro ⟨g1, g2, g3⟩
    exact ⟨g1, g2, by rw [← e3 g1]; exact g3⟩
  · rintro ⟨g1, g2, g3⟩
    exact ⟨g1, g2, by rw [e3 g1]; exact g3⟩
theorem a_fill_nx (hw : a_WF w) (hs : isSt w s) (q8 : q < 8) (h : ∀ d, d < 3 → a_bit q d = true → plc (a_fill w some_ s) d < a_tot w d) : isSt w (nx s q) ∧ a_fill w some_ (nx s q) = nx (a_fill w some_ s) q := by
  obtain ⟨f1, f2⟩ := a_fill_plc hw hs (some_ := some_)
  have t : ∀ d, d < 3 → a_tot w d ≤ 15 := fun d hd => a_tot_le (hw.2.2.2.1 d hd).1
  have hb : ∀ d, d < 3 → a_bit q d = true → a_bit some_ d = true ∧ plc s d < a_tot w d := by
    intro d hd hbd
    have := h d hd hbd
    rw [f2 d hd] at this
    cases c : a_bit some_ d
    · rw [c] at this; simp at this
    · rw [c] at this
      exact ⟨rfl, by simpa using this⟩
  obtain ⟨n1, n2⟩ := nx_plc hs.1 q8 (fun d hd hbd => Nat.lt_of_lt_of_le (hb d hd hbd).2 (t d hd))
  obtain ⟨k1, k2⟩ := nx_plc f1 q8 (fun d hd hbd => Nat.lt_of_lt_of_le (h d hd hbd) (t d hd))
  have st : isSt w (nx s q) := by
    refine ⟨n1, fun d hd => ?_⟩
    rw [n2 d hd]
    have := hs.2 d hd
    cases c : a_bit q d
    · simpa using this
    · have := (hb d hd c).2
      simp only [if_true]; omega
  obtain ⟨g1, g2⟩ := a_fill_plc hw st (some_ := some_)
  refine ⟨st, plc_ext g1 k1 (fun d hd => ?_)⟩
  rw [g2 d hd, k2 d hd, n2 d hd, f2 d hd]
  cases c2 : a_bit some_ d
  · cases c : a_bit q d
    · simp
    · have := (hb d hd c).1
      rw [c2] at this; exact absurd this (by decide)
  · simp
theorem a_fill_E (hw : a_WF w) (h8 : some_ < 8) (hs : isSt w s) : (some_ ^^^ (some_ &&& a_dni w s) = 0) ↔ a_fill w some_ s = a_E w := by
  obtain ⟨f1, f2⟩ := a_fill_plc hw hs (some_ := some_)
  have dl : a_dni w s < 8 := msk_lt _ 3
  have pe : ∀ d, d < 3 → plc (a_E w) d = a_tot w d := by
    intro d hd
    have b := (a_box_E hw).2 d hd
    have t : ∀ d, d < 3 → a_tot w d ≤ 15 := fun d hd => a_tot_le (hw.2.2.2.1 d hd).1
    obtain ⟨p0, p1, p2, p3⟩ := plc_of (i := a_tot w 0) (j := a_tot w 1) (k := a_tot w 2) (by have := t 0 (by decide); omega) (by have := t 1 (by decide); omega) (by have := t 2 (by decide); omega)
    have : d = 0 ∨ d = 1 ∨ d = 2 := by omega
    unfold a_E
    rcases this with rfl | rfl | rfl
    · exact p0
    · exact p1
    · exact p2
  rw [a_sub8 h8 dl]
  constructor
  · intro h
    refine plc_ext f1 (a_box_E hw).1 (fun d hd => ?_)
    rw [pe d hd, f2 d hd]
    cases c : a_bit some_ d
    · rfl
    · have := h d hd c
      unfold a_dni at this
      rw [msk_bit, decide_eq_true hd, Bool.true_and] at this
      simpa using this
  · intro h d hd hb
    have e := f2 d hd
    rw [h, pe d hd, if_pos hb] at e
    unfold a_dni
    rw [msk_bit, decide_eq_true hd, Bool.true_and]
    exact decide_eq_true e.symm
/-- the least of the numbers behind, one more, is the state's own -/
theorem a_F_min {mv : Nat → Nat → Bool} {B : Nat → Prop} {rm : Nat → Nat} {E : Nat} (h : z_sys mv B rm) {s V N : Nat} (hN : 100 ≤ N) (hb : B s) (hs : s ≠ E) (h1 : V ≤ N) (h2 : ∀ q, 1 ≤ q → q < 8 → mv s q = true → V ≤ gF N (a_F mv E (nx s q)) + 1)
    (h3 : V = N ∨ ∃ q, 1 ≤ q ∧ q < 8 ∧ mv s q = true ∧ V = gF N (a_F mv E (nx s q)) + 1) : V = gF N (a_F mv E s) := by
  unfold gF at *
  by_cases hf : a_F mv E s = 100
  · rw [if_pos hf]
    rcases h3 with h3 | ⟨q, q1, q2, q3, q4⟩
    · exact h3
    · have u := a_F_up (E := E) h hb q1 q2 q3
      by_cases e : a_F mv E (nx s q) = 100
      · rw [if_pos e] at q4; omega
      · obtain ⟨b2, -⟩ := h.2 s q hb q1 q2 q3
        rcases a_F_spec (E := E) h b2 with ⟨x, -⟩ | ⟨x, -⟩ <;> omega
  · rw [if_neg hf]
    obtain ⟨set, s1, s2, s3, s4⟩ := a_F_dn h hb hs hf
    have l := h2 set s1 s2 s3
    have f45 : a_F mv E s ≤ 45 := by
      rcases a_F_spec (E := E) h hb with ⟨x, -⟩ | ⟨x, -⟩
      · exact absurd x hf
      · exact x
    rw [if_neg (by omega)] at l
    rcases h3 with h3 | ⟨q, q1, q2, q3, q4⟩
    · omega
    · have u := a_F_up (E := E) h hb q1 q2 q3
      by_cases e : a_F mv E (nx s q) = 100
      · rw [if_pos e] at q4; omega
      · rw [if_neg e] at q4; omega
end

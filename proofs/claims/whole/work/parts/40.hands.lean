/-! the hands of a minute as a list (dish, right, sharp), and who gives them -/
abbrev Hd : Type := Nat × Bool × Bool
def l_from (r kn i : Nat) : Nat → Nat → List Hd
  | 0, _ => []
  | m + 1, h => (i, decide (h < r), decide (h < kn)) :: l_from r kn i m (h + 1)
def l_dish (w : Nat → Nat) (i s : Nat) : List Hd := if s < a_sm w i then l_from (a_st w i s 0) (a_st w i s 2) i (a_st w i s 0 + a_st w i s 1) 0 else []
def l_all (w : Nat → Nat) (key : Nat) : Nat → Nat → List Hd
  | 0, _ => []
  | n + 1, i => l_dish w i (a_at key i) ++ l_all w key n (i + 1)
def l_cnt (ri sh : Bool) : List Hd → Nat
  | [] => 0
  | x :: t => (if x.2.1 = ri ∧ x.2.2 = sh then 1 else 0) + l_cnt ri sh t
theorem l_cnt_app {ri sh : Bool} : ∀ a b : List Hd, l_cnt ri sh (a ++ b) = l_cnt ri sh a + l_cnt ri sh b
  | [], b => by simp [l_cnt]
  | x :: t, b => by
    have := l_cnt_app (ri := ri) (sh := sh) t b
    simp only [List.cons_append, l_cnt, this]
    omega
theorem l_cnt_le {ri sh : Bool} : ∀ a : List Hd, l_cnt ri sh a ≤ a.length
  | [] => Nat.le_refl _
  | x :: t => by
    have := l_cnt_le (ri := ri) (sh := sh) t
    simp only [l_cnt, List.length_cons]
    split <;> omega
theorem l_from_len {r kn i : Nat} : ∀ m h, (l_from r kn i m h).length = m
  | 0, _ => rfl
  | m + 1, h => by
    show (l_from r kn i m (h + 1)).length + 1 = m + 1
    rw [l_from_len m (h + 1)]
theorem l_from_cnt {r l kn i : Nat} (hk : kn ≤ r + l) : ∀ m h, h + m = r + l →
    l_cnt true true (l_from r kn i m h) = min r kn - min h (min r kn) ∧ l_cnt true false (l_from r kn i m h) = (r - min r kn) - (min h r - min h (min r kn)) ∧
    l_cnt false true (l_from r kn i m h) = (kn - min r kn) - (min h kn - min h (min r kn)) ∧ l_cnt false false (l_from r kn i m h) = (l - (kn - min r kn)) - (h - min h r - (min h kn - min h (min r kn)))
  | 0, h, hm => by
    simp only [l_from, l_cnt]
    omega
  | m + 1, h, hm => by
    obtain ⟨e1, e2, e3, e4⟩ := l_from_cnt (i := i) hk m (h + 1) (by omega)
    simp only [l_from, l_cnt]
    rw [e1, e2, e3, e4]
    by_cases c1 : h < r <;> by_cases c2 : h < kn <;> simp [c1, c2] <;> omega
theorem l_dish_cnt {w : Nat → Nat} {i s : Nat} (hw : a_WD w i) : l_cnt true true (l_dish w i s) = n_sr w i s ∧ l_cnt true false (l_dish w i s) = n_br w i s ∧ l_cnt false true (l_dish w i s) = n_sl w i s ∧ l_cnt false false (l_dish w i s) = n_bl w i s := by
  unfold l_dish n_sr n_br n_sl n_bl
  by_cases h : s < a_sm w i
  · simp only [if_pos h]
    have b := hw.2 s h
    obtain ⟨e1, e2, e3, e4⟩ := l_from_cnt (r := a_st w i s 0) (l := a_st w i s 1) (kn := a_st w i s 2) (i := i) (by omega) (a_st w i s 0 + a_st w i s 1) 0 (by omega)
    rw [e1, e2, e3, e4]
    simp
  · simp only [if_neg h]
    exact ⟨rfl, rfl, rfl, rfl⟩
theorem l_all_cnt {w : Nat → Nat} {key : Nat} (hw : a_WF w) : l_cnt true true (l_all w key 3 0) = n_sum (n_sr w) key 3 ∧ l_cnt true false (l_all w key 3 0) = n_sum (n_br w) key 3 ∧ l_cnt false true (l_all w key 3 0) = n_sum (n_sl w) key 3 ∧ l_cnt false false (l_all w key 3 0) = n_sum (n_bl w) key 3 := by
  obtain ⟨a1, a2, a3, a4⟩ := l_dish_cnt (w := w) (i := 0) (s := a_at key 0) (hw.2.2.2.1 0 (by decide)).1
  obtain ⟨b1, b2, b3, b4⟩ := l_dish_cnt (w := w) (i := 1) (s := a_at key 1) (hw.2.2.2.1 1 (by decide)).1
  obtain ⟨c1, c2, c3, c4⟩ := l_dish_cnt (w := w) (i := 2) (s := a_at key 2) (hw.2.2.2.1 2 (by decide)).1
  simp only [l_all, n_sum, l_cnt_app, l_cnt, a1, a2, a3, a4, b1, b2, b3, b4, c1, c2, c3, c4, Nat.zero_add, Nat.add_zero, Nat.reduceAdd, Nat.add_assoc, and_self]
theorem l_dish_len {w : Nat → Nat} {i s : Nat} (hw : a_WD w i) : (l_dish w i s).length ≤ 6 := by
  unfold l_dish
  by_cases h : s < a_sm w i
  · rw [if_pos h, l_from_len]
    have b := hw.2 s h
    omega
  · rw [if_neg h]
    exact Nat.zero_le _
theorem l_all_len {w : Nat → Nat} {key : Nat} (hw : a_WF w) : (l_all w key 3 0).length ≤ 18 := by
  have a := l_dish_len (w := w) (i := 0) (s := a_at key 0) (hw.2.2.2.1 0 (by decide)).1
  have b := l_dish_len (w := w) (i := 1) (s := a_at key 1) (hw.2.2.2.1 1 (by decide)).1
  have c := l_dish_len (w := w) (i := 2) (s := a_at key 2) (hw.2.2.2.1 2 (by decide)).1
  simp only [l_all, List.length_append, List.length_nil, Nat.zero_add, Nat.reduceAdd]
  omega
/-- hands there are enough for a list -/
def l_cov (hl : Nat → Nat) (t : List Hd) : Bool := a_covN hl (l_cnt true true t) (l_cnt true false t) (l_cnt false true t) (l_cnt false false t)
def l_first (hl : Nat → Nat) (x : Hd) (t : List Hd) : Option Nat := a_first hl x.2.1 x.2.2 (l_cnt true true t) (l_cnt true false t) (l_cnt false true t) (l_cnt false false t) 6 0
/-- the row of cooks: (dish, cook) for each hand -/
def a_line : List Hd → (Nat → Nat) → List (Nat × Nat)
  | [], _ => []
  | x :: t, hl => (x.1, (l_first hl x t).getD 0) :: a_line t (uh hl ((l_first hl x t).getD 0) (h_lo (hl ((l_first hl x t).getD 0)) x.2.1))
theorem a_line_len : ∀ (t : List Hd) (hl : Nat → Nat), (a_line t hl).length = t.length
  | [], _ => rfl
  | x :: t, hl => by
    show (a_line t _).length + 1 = t.length + 1
    rw [a_line_len t]
theorem l_less {i : Nat} {ri sh : Bool} {t : List Hd} : n_less ri sh (l_cnt true true ((i, ri, sh) :: t)) (l_cnt true false ((i, ri, sh) :: t)) (l_cnt false true ((i, ri, sh) :: t)) (l_cnt false false ((i, ri, sh) :: t)) = (l_cnt true true t, l_cnt true false t, l_cnt false true t, l_cnt false false t) := by
  cases ri <;> cases sh <;> simp [n_less, l_cnt]
theorem l_some {i : Nat} {ri sh : Bool} {t : List Hd} : (if ri then (if sh then l_cnt true true ((i, ri, sh) :: t) else l_cnt true false ((i, ri, sh) :: t)) else (if sh then l_cnt false true ((i, ri, sh) :: t) else l_cnt false false ((i, ri, sh) :: t))) ≠ 0 := by
  cases ri <;> cases sh <;> simp [l_cnt]
theorem l_go {hl : Nat → Nat} {th : Nat → Bool} (hv : ∀ c, c < 6 → h_ok (th c) (hl c)) {x : Hd} {t : List Hd} (hc : l_cov hl (x :: t) = true) :
    ∃ r, l_first hl x t = some r ∧ r < 6 ∧ h_can (hl r) x.2.1 x.2.2 = true ∧ l_cov (uh hl r (h_lo (hl r) x.2.1)) t = true := by
  obtain ⟨i, ri, sh⟩ := x
  obtain ⟨r, r6, g1, g2⟩ := a_greedy hv (ri := ri) (sh := sh) l_some hc
  rw [l_less] at g2
  obtain ⟨q, q1, q2, q3, q4, q5⟩ := a_first_ex (hl := hl) (ri := ri) (sh := sh) 6 0 ⟨r, Nat.zero_le _, by omega, g1, g2⟩
  exact ⟨q, q1, by omega, q4, q5⟩
theorem l_ok {hl : Nat → Nat} {th : Nat → Bool} (hv : ∀ c, c < 6 → h_ok (th c) (hl c)) {r : Nat} {ri : Bool} (h : (bif ri then hR (hl r) else hL (hl r)) = true) : ∀ c, c < 6 → h_ok (th c) (uh hl r (h_lo (hl r) ri) c) := by
  intro c hc
  by_cases e : c = r
  · subst e; rw [uh_same]; exact h_lo_ok (hv c hc) h
  · rw [uh_ne e]; exact hv c hc
theorem h_can_has {m : Nat} {ri sh : Bool} (h : h_can m ri sh = true) : (bif ri then hR m else hL m) = true := by
  unfold h_can at h
  exact (Bool.and_eq_true_iff.mp h).1
/-- the cooks of a dish in a row, as bits -/
def t_of (e : Nat) (P : List (Nat × Nat)) : Nat := P.foldl (fun s p => if p.1 = e then s ||| 2 ^ p.2 else s) 0
theorem t_of_app {e : Nat} {P : List (Nat × Nat)} {p : Nat × Nat} : t_of e (P ++ [p]) = if p.1 = e then t_of e P ||| 2 ^ p.2 else t_of e P := by
  simp only [t_of, List.foldl_append, List.foldl_cons, List.foldl_nil]
theorem t_fold_lt {e : Nat} : ∀ (P : List (Nat × Nat)) (s : Nat), s < 64 → (∀ p ∈ P, p.2 < 6) → P.foldl (fun s p => if p.1 = e then s ||| 2 ^ p.2 else s) s < 64
  | [], s, hs, _ => hs
  | p :: t, s, hs, h => by
    rw [List.foldl_cons]
    refine t_fold_lt t _ ?_ (fun q hq => h q (List.mem_cons_of_mem _ hq))
    split
    · exact Nat.or_lt_two_pow (n := 6) hs (Nat.pow_lt_pow_right (by decide) (h p List.mem_cons_self))
    · exact hs
theorem t_of_lt {e : Nat} {P : List (Nat × Nat)} (h : ∀ p ∈ P, p.2 < 6) : t_of e P < 64 := t_fold_lt P 0 (by decide) h
theorem t_fold_no {e : Nat} : ∀ (P : List (Nat × Nat)) (s : Nat), (∀ p ∈ P, p.1 ≠ e) → P.foldl (fun s p => if p.1 = e then s ||| 2 ^ p.2 else s) s = s
  | [], s, _ => rfl
  | p :: t, s, h => by
    rw [List.foldl_cons, if_neg (h p List.mem_cons_self)]
    exact t_fold_no t s (fun q hq => h q (List.mem_cons_of_mem _ hq))
theorem t_of_no {e : Nat} {P : List (Nat × Nat)} (h : ∀ p ∈ P, p.1 ≠ e) : t_of e P = 0 := t_fold_no P 0 h

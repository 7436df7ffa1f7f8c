def R_law : String := "CookHandsLaw"
def lw_P (b : Addr) (xs : List Int32) (args : Array Value) (s : State) : Prop := args = #[.ref b] ∧ s.IntsAt b xs ∧ xs.length ≤ 3072 ∧ (Jvm.Cond.and given_1 narrow_1).before args s = true
def lw_Q (_ : Array Value) (s : State) (o : Outcome) (t : State) : Prop := o = .returned (some (.int 1)) ∧ Framed s o t [] 600000 7302250
def lw_Z (below : List Frame) (a : Array Value) (s : State) : State → Prop := fun t => ∃ o, t.status = .running ∧ Ended t below o ∧ lw_Q a s o t
/-- the law's own end, with 1 on the stack, nothing written that was there before, its room as the claim has it -/
theorem lw_ret {p : Program} {l : Launch} {e : Env} {s : State} {m : MethodId} {below : List Frame} {meth : Method} {c : Code} {b : Nat} (hx : p.tables.exec = Jvm.exec) (hb : c.code = code) (hr : meth.sig.returnType = ret) (hlocks : meth.locks = false) {pc : Nat} {H : Heap} {ls : Array Slot} (hdg : decode code pc = .ok (.ireturn, 1)) : W p l e room_1 s m #[Value.ref b] below meth c H [] 600000 7302250 (lw_Z below #[Value.ref b] s) (F0 m pc ls [.int 1]) := by
  intro T hT X
  obtain ⟨fs, hret, hrun, hended, hW, hframe⟩ := X.leave (v := some (.int 1)) (hlocks := hlocks) (fun h => by rw [hr] at h; cases h)
  have hmeth' : T.vm.method? m = some meth := X.method'
  refine ⟨T.setFrames fs, ?_, .returned (some (.int 1)), hrun, hended, rfl, ⟨_, rfl⟩, hW, hframe⟩
  jvm_step X.here [X.here.top, hx, hb, hdg, hmeth', hr, ret, narrow_b1]
  (try refine ⟨rfl, ?_⟩); (try refine ⟨rfl, ?_⟩)
  first | (intro acts; rw [hret _ acts rfl rfl rfl]) | rw [hret _ _ rfl rfl rfl]
  exact Steps.refl _
/-- what holds at the law's entry: the machine, the code, the tables' words (any of lw_tbl by 'hts w (by decide +kernel)'), the script of L ints xs at the cell b, what the Statement gives of the start (any of its parts by flat_of_before) -/
def lw_At (p : Program) (s : State) (m : MethodId) (meth : Method) (c : Code) (b L : Nat) (xs : Nat → Int32) : Prop :=
  p.tables.exec = Jvm.exec ∧ c.code = code ∧ meth.sig.returnType = ret ∧ c.maxLocals = 4 ∧ s.vm.findClass R_law = some m.cls ∧ (∀ w ∈ lw_tbl, w.before #[Value.ref b] s = true) ∧ va_X b L xs s s.heap ∧ b < s.heap.size ∧ meth.locks = false ∧ (Jvm.Cond.and given_1 narrow_1).before #[Value.ref b] s = true

abbrev z_h (s : State) (b : Nat) : Prop := ∀ q ∈ flatC (Jvm.Cond.and given_1 narrow_1), q.before #[Value.ref b] s = true
section
variable {s : State} {b : Nat}
theorem z_st1 (h : z_h s b) (hts : ∀ w ∈ lw_tbl, w.before #[Value.ref b] s = true) : ∃ t : Nat, va_Z "CookHands$Kind" "RIGHT" "[I" (.ref t) (z_A s.heap.size) s s.heap ∧ va_T .int t 6 (fun j => .int ((z_xfL.getD 1 []).getD j 0)) (z_A s.heap.size) s s.heap := by
  have hA : ∀ a : Nat, a < s.heap.size → ¬ z_A s.heap.size a := fun a h q => by unfold z_A at q; omega
  obtain ⟨t, h1, h2⟩ := va_Tof (args := #[Value.ref b]) (tm := (.static "CookHands$Kind" "RIGHT" "[I")) (ty := .int) (N := 6) (f := fun j => .int ((z_xfL.getD 1 []).getD j 0)) (A := z_A s.heap.size) (by decide) (h _ (by decide +kernel)) (va_eqt (h _ (by decide +kernel))) (fun j hj => by
    match j, hj with
    | 0, _ => exact va_eqt (z := 1) (h _ (by decide +kernel))
    | 1, _ => exact va_eqt (z := 0) (h _ (by decide +kernel))
    | 2, _ => exact va_eqt (z := 1) (h _ (by decide +kernel))
    | 3, _ => exact va_eqt (z := 1) (h _ (by decide +kernel))
    | 4, _ => exact va_eqt (z := 1) (h _ (by decide +kernel))
    | 5, _ => exact va_eqt (z := 1) (h _ (by decide +kernel))
    | j + 6, hj => exact absurd hj (by omega)) hA
  exact ⟨t, va_Zref (hts _ (List.mem_of_getElem? (i := 565) (by decide +kernel))) (hts _ (List.mem_of_getElem? (i := 150) (by decide +kernel))) h1 hA, h2⟩
theorem z_st2 (h : z_h s b) (hts : ∀ w ∈ lw_tbl, w.before #[Value.ref b] s = true) : ∃ t : Nat, va_Z "CookHands$Kind" "LEFT" "[I" (.ref t) (z_A s.heap.size) s s.heap ∧ va_T .int t 6 (fun j => .int ((z_xfL.getD 2 []).getD j 0)) (z_A s.heap.size) s s.heap := by
  have hA : ∀ a : Nat, a < s.heap.size → ¬ z_A s.heap.size a := fun a h q => by unfold z_A at q; omega
  obtain ⟨t, h1, h2⟩ := va_Tof (args := #[Value.ref b]) (tm := (.static "CookHands$Kind" "LEFT" "[I")) (ty := .int) (N := 6) (f := fun j => .int ((z_xfL.getD 2 []).getD j 0)) (A := z_A s.heap.size) (by decide) (h _ (by decide +kernel)) (va_eqt (h _ (by decide +kernel))) (fun j hj => by
    match j, hj with
    | 0, _ => exact va_eqt (z := 0) (h _ (by decide +kernel))
    | 1, _ => exact va_eqt (z := 1) (h _ (by decide +kernel))
    | 2, _ => exact va_eqt (z := 0) (h _ (by decide +kernel))
    | 3, _ => exact va_eqt (z := 1) (h _ (by decide +kernel))
    | 4, _ => exact va_eqt (z := 0) (h _ (by decide +kernel))
    | 5, _ => exact va_eqt (z := 1) (h _ (by decide +kernel))
    | j + 6, hj => exact absurd hj (by omega)) hA
  exact ⟨t, va_Zref (hts _ (List.mem_of_getElem? (i := 570) (by decide +kernel))) (hts _ (List.mem_of_getElem? (i := 150) (by decide +kernel))) h1 hA, h2⟩
theorem z_st3 (h : z_h s b) (hts : ∀ w ∈ lw_tbl, w.before #[Value.ref b] s = true) : ∃ t : Nat, va_Z "CookHands$Planner" "STRIDE" "[I" (.ref t) (z_A s.heap.size) s s.heap ∧ va_T .int t 8 (fun j => .int ((z_xfL.getD 3 []).getD j 0)) (z_A s.heap.size) s s.heap := by
  have hA : ∀ a : Nat, a < s.heap.size → ¬ z_A s.heap.size a := fun a h q => by unfold z_A at q; omega
  obtain ⟨t, h1, h2⟩ := va_Tof (args := #[Value.ref b]) (tm := (.static "CookHands$Planner" "STRIDE" "[I")) (ty := .int) (N := 8) (f := fun j => .int ((z_xfL.getD 3 []).getD j 0)) (A := z_A s.heap.size) (by decide) (h _ (by decide +kernel)) (va_eqt (h _ (by decide +kernel))) (fun j hj => by
    match j, hj with
    | 0, _ => exact va_eqt (z := 0) (h _ (by decide +kernel))
    | 1, _ => exact va_eqt (z := 1) (h _ (by decide +kernel))
    | 2, _ => exact va_eqt (z := 16) (h _ (by decide +kernel))
    | 3, _ => exact va_eqt (z := 17) (h _ (by decide +kernel))
    | 4, _ => exact va_eqt (z := 256) (h _ (by decide +kernel))
    | 5, _ => exact va_eqt (z := 257) (h _ (by decide +kernel))
    | 6, _ => exact va_eqt (z := 272) (h _ (by decide +kernel))
    | 7, _ => exact va_eqt (z := 273) (h _ (by decide +kernel))
    | j + 8, hj => exact absurd hj (by omega)) hA
  exact ⟨t, va_Zref (hts _ (List.mem_of_getElem? (i := 840) (by decide +kernel))) (hts _ (List.mem_of_getElem? (i := 144) (by decide +kernel))) h1 hA, h2⟩
theorem z_st4 (h : z_h s b) (hts : ∀ w ∈ lw_tbl, w.before #[Value.ref b] s = true) : ∃ t : Nat, va_Z "CookHands$Planner" "OUTSIDE" "[I" (.ref t) (z_A s.heap.size) s s.heap ∧ va_T .int t 8 (fun j => .int ((z_xfL.getD 4 []).getD j 0)) (z_A s.heap.size) s s.heap := by
  have hA : ∀ a : Nat, a < s.heap.size → ¬ z_A s.heap.size a := fun a h q => by unfold z_A at q; omega
  obtain ⟨t, h1, h2⟩ := va_Tof (args := #[Value.ref b]) (tm := (.static "CookHands$Planner" "OUTSIDE" "[I")) (ty := .int) (N := 8) (f := fun j => .int ((z_xfL.getD 4 []).getD j 0)) (A := z_A s.heap.size) (by decide) (h _ (by decide +kernel)) (va_eqt (h _ (by decide +kernel))) (fun j hj => by
    match j, hj with
    | 0, _ => exact va_eqt (z := 63) (h _ (by decide +kernel))
    | 1, _ => exact va_eqt (z := 60) (h _ (by decide +kernel))
    | 2, _ => exact va_eqt (z := 51) (h _ (by decide +kernel))
    | 3, _ => exact va_eqt (z := 48) (h _ (by decide +kernel))
    | 4, _ => exact va_eqt (z := 15) (h _ (by decide +kernel))
    | 5, _ => exact va_eqt (z := 12) (h _ (by decide +kernel))
    | 6, _ => exact va_eqt (z := 3) (h _ (by decide +kernel))
    | 7, _ => exact va_eqt (z := 0) (h _ (by decide +kernel))
    | j + 8, hj => exact absurd hj (by omega)) hA
  exact ⟨t, va_Zref (hts _ (List.mem_of_getElem? (i := 802) (by decide +kernel))) (hts _ (List.mem_of_getElem? (i := 144) (by decide +kernel))) h1 hA, h2⟩
theorem z_st5 (h : z_h s b) (hts : ∀ w ∈ lw_tbl, w.before #[Value.ref b] s = true) : ∃ t : Nat, va_Z "CookHands$Planner" "HOLDING" "[I" (.ref t) (z_A s.heap.size) s s.heap ∧ va_T .int t 8 (fun j => .int ((z_xfL.getD 5 []).getD j 0)) (z_A s.heap.size) s s.heap := by
  have hA : ∀ a : Nat, a < s.heap.size → ¬ z_A s.heap.size a := fun a h q => by unfold z_A at q; omega
  obtain ⟨t, h1, h2⟩ := va_Tof (args := #[Value.ref b]) (tm := (.static "CookHands$Planner" "HOLDING" "[I")) (ty := .int) (N := 8) (f := fun j => .int ((z_xfL.getD 5 []).getD j 0)) (A := z_A s.heap.size) (by decide) (h _ (by decide +kernel)) (va_eqt (h _ (by decide +kernel))) (fun j hj => by
    match j, hj with
    | 0, _ => exact va_eqt (z := 255) (h _ (by decide +kernel))
    | 1, _ => exact va_eqt (z := 170) (h _ (by decide +kernel))
    | 2, _ => exact va_eqt (z := 204) (h _ (by decide +kernel))
    | 3, _ => exact va_eqt (z := 136) (h _ (by decide +kernel))
    | 4, _ => exact va_eqt (z := 240) (h _ (by decide +kernel))
    | 5, _ => exact va_eqt (z := 160) (h _ (by decide +kernel))
    | 6, _ => exact va_eqt (z := 192) (h _ (by decide +kernel))
    | 7, _ => exact va_eqt (z := 128) (h _ (by decide +kernel))
    | j + 8, hj => exact absurd hj (by omega)) hA
  exact ⟨t, va_Zref (hts _ (List.mem_of_getElem? (i := 818) (by decide +kernel))) (hts _ (List.mem_of_getElem? (i := 144) (by decide +kernel))) h1 hA, h2⟩
theorem z_st6 (h : z_h s b) (hts : ∀ w ∈ lw_tbl, w.before #[Value.ref b] s = true) : ∃ t : Nat, va_Z "CookHands$Card" "NUMBERS_BEHIND" "[I" (.ref t) (z_A s.heap.size) s s.heap ∧ va_T .int t 5 (fun j => .int ((z_xfL.getD 6 []).getD j 0)) (z_A s.heap.size) s s.heap := by
  have hA : ∀ a : Nat, a < s.heap.size → ¬ z_A s.heap.size a := fun a h q => by unfold z_A at q; omega
  obtain ⟨t, h1, h2⟩ := va_Tof (args := #[Value.ref b]) (tm := (.static "CookHands$Card" "NUMBERS_BEHIND" "[I")) (ty := .int) (N := 5) (f := fun j => .int ((z_xfL.getD 6 []).getD j 0)) (A := z_A s.heap.size) (by decide) (h _ (by decide +kernel)) (va_eqt (h _ (by decide +kernel))) (fun j hj => by
    match j, hj with
    | 0, _ => exact va_eqt (z := 2) (h _ (by decide +kernel))
    | 1, _ => exact va_eqt (z := 0) (h _ (by decide +kernel))
    | 2, _ => exact va_eqt (z := 5) (h _ (by decide +kernel))
    | 3, _ => exact va_eqt (z := 1) (h _ (by decide +kernel))
    | 4, _ => exact va_eqt (z := 0) (h _ (by decide +kernel))
    | j + 5, hj => exact absurd hj (by omega)) hA
  exact ⟨t, va_Zref (hts _ (List.mem_of_getElem? (i := 670) (by decide +kernel))) (hts _ (List.mem_of_getElem? (i := 146) (by decide +kernel))) h1 hA, h2⟩
theorem z_stf (h : z_h s b) (hts : ∀ w ∈ lw_tbl, w.before #[Value.ref b] s = true) : ∃ sv : Option Nat, va_Z "jdk/internal/util/Preconditions" "SIOOBE_FORMATTER" "Ljava/util/function/BiFunction;" (va_rf sv) (z_A s.heap.size) s s.heap := by
  have hA : ∀ a : Nat, a < s.heap.size → ¬ z_A s.heap.size a := fun a h q => by unfold z_A at q; omega
  rcases va_Zqof (hts (.laysStatic "jdk/internal/util/Preconditions" "SIOOBE_FORMATTER" "Ljava/util/function/BiFunction;") (List.mem_of_getElem? (i := 642) (by decide +kernel))) (hts _ (List.mem_of_getElem? (i := 153) (by decide +kernel))) (h _ (by decide +kernel)) hA with q | ⟨t, q⟩
  · exact ⟨none, q⟩
  · exact ⟨some t, q⟩
theorem z_stc1 (h : z_h s b) (hts : ∀ w ∈ lw_tbl, w.before #[Value.ref b] s = true) : va_Z "java/lang/String" "COMPACT_STRINGS" "Z" (.int 1) (z_A s.heap.size) s s.heap :=
  va_Zof (hts _ (List.mem_of_getElem? (i := 626) (by decide +kernel))) (hts _ (List.mem_of_getElem? (i := 151) (by decide +kernel))) (va_eqi (h _ (by decide +kernel))) (fun a h q => by unfold z_A at q; omega)
def z_stm (i : Nat) : Term := .string "CookHands$Card" ([57, 63, 65, 67, 69].getD i 0)
theorem z_sts (h : z_h s b) : ∃ adK adV : Nat → Nat, vk_S 5 z_slen z_sbyt adK adV (z_A s.heap.size) s s.heap ∧ ∀ i : Nat, i < 5 → (z_stm i).eval #[Value.ref b] s none [] s = some (.ref (adK i)) := by
  have hA : ∀ a : Nat, a < s.heap.size → ¬ z_A s.heap.size a := fun a h q => by unfold z_A at q; omega
  refine vk_Sof (args := #[Value.ref b]) (N := 5) (tm := z_stm) (fun i hi => ?_) (fun i hi => by match i, hi with | 0, _ => exact h _ (by decide +kernel) | 1, _ => exact h _ (by decide +kernel) | 2, _ => exact h _ (by decide +kernel) | 3, _ => exact h _ (by decide +kernel) | 4, _ => exact h _ (by decide +kernel) | i + 5, hi => exact absurd hi (by omega)) (fun i hi => by match i, hi with | 0, _ => exact h _ (by decide +kernel) | 1, _ => exact h _ (by decide +kernel) | 2, _ => exact h _ (by decide +kernel) | 3, _ => exact h _ (by decide +kernel) | 4, _ => exact h _ (by decide +kernel) | i + 5, hi => exact absurd hi (by omega)) (fun i hi => by match i, hi with | 0, _ => exact h _ (by decide +kernel) | 1, _ => exact h _ (by decide +kernel) | 2, _ => exact h _ (by decide +kernel) | 3, _ => exact h _ (by decide +kernel) | 4, _ => exact h _ (by decide +kernel) | i + 5, hi => exact absurd hi (by omega)) (fun i hi => by match i, hi with | 0, _ => exact h _ (by decide +kernel) | 1, _ => exact h _ (by decide +kernel) | 2, _ => exact h _ (by decide +kernel) | 3, _ => exact h _ (by decide +kernel) | 4, _ => exact h _ (by decide +kernel) | i + 5, hi => exact absurd hi (by omega)) (fun i hi j hj => ?_) (fun i j hi hj hij => ?_) hA
  · exact (by decide : ∀ i, i < 5 → z_slen.getD i 0 < 2 ^ 31) i hi
  · match i, hi with
    | 0, _ =>
      match j, hj with
      | 0, _ => exact h _ (by decide +kernel)
      | 1, _ => exact h _ (by decide +kernel)
      | 2, _ => exact h _ (by decide +kernel)
      | 3, _ => exact h _ (by decide +kernel)
      | j + 4, hj => exact absurd hj (by show ¬ j + 4 < 4; omega)
    | 1, _ =>
      match j, hj with
      | 0, _ => exact h _ (by decide +kernel)
      | 1, _ => exact h _ (by decide +kernel)
      | 2, _ => exact h _ (by decide +kernel)
      | 3, _ => exact h _ (by decide +kernel)
      | j + 4, hj => exact absurd hj (by show ¬ j + 4 < 4; omega)
    | 2, _ =>
      match j, hj with
      | 0, _ => exact h _ (by decide +kernel)
      | 1, _ => exact h _ (by decide +kernel)
      | 2, _ => exact h _ (by decide +kernel)
      | 3, _ => exact h _ (by decide +kernel)
      | j + 4, hj => exact absurd hj (by show ¬ j + 4 < 4; omega)
    | 3, _ =>
      match j, hj with
      | 0, _ => exact h _ (by decide +kernel)
      | 1, _ => exact h _ (by decide +kernel)
      | 2, _ => exact h _ (by decide +kernel)
      | 3, _ => exact h _ (by decide +kernel)
      | 4, _ => exact h _ (by decide +kernel)
      | 5, _ => exact h _ (by decide +kernel)
      | j + 6, hj => exact absurd hj (by show ¬ j + 6 < 6; omega)
    | 4, _ =>
      match j, hj with
      | 0, _ => exact h _ (by decide +kernel)
      | 1, _ => exact h _ (by decide +kernel)
      | 2, _ => exact h _ (by decide +kernel)
      | 3, _ => exact h _ (by decide +kernel)
      | 4, _ => exact h _ (by decide +kernel)
      | 5, _ => exact h _ (by decide +kernel)
      | j + 6, hj => exact absurd hj (by show ¬ j + 6 < 6; omega)
    | i + 5, hi => exact absurd hi (by omega)
  · match i, j, hi, hj with
    | 0, 0, _, _ => exact absurd rfl hij
    | 0, 1, _, _ => exact Or.inl (h _ (by decide +kernel))
    | 0, 2, _, _ => exact Or.inl (h _ (by decide +kernel))
    | 0, 3, _, _ => exact Or.inl (h _ (by decide +kernel))
    | 0, 4, _, _ => exact Or.inl (h _ (by decide +kernel))
    | 1, 0, _, _ => exact Or.inr (h _ (by decide +kernel))
    | 1, 1, _, _ => exact absurd rfl hij
    | 1, 2, _, _ => exact Or.inl (h _ (by decide +kernel))
    | 1, 3, _, _ => exact Or.inl (h _ (by decide +kernel))
    | 1, 4, _, _ => exact Or.inl (h _ (by decide +kernel))
    | 2, 0, _, _ => exact Or.inr (h _ (by decide +kernel))
    | 2, 1, _, _ => exact Or.inr (h _ (by decide +kernel))
    | 2, 2, _, _ => exact absurd rfl hij
    | 2, 3, _, _ => exact Or.inl (h _ (by decide +kernel))
    | 2, 4, _, _ => exact Or.inl (h _ (by decide +kernel))
    | 3, 0, _, _ => exact Or.inr (h _ (by decide +kernel))
    | 3, 1, _, _ => exact Or.inr (h _ (by decide +kernel))
    | 3, 2, _, _ => exact Or.inr (h _ (by decide +kernel))
    | 3, 3, _, _ => exact absurd rfl hij
    | 3, 4, _, _ => exact Or.inl (h _ (by decide +kernel))
    | 4, 0, _, _ => exact Or.inr (h _ (by decide +kernel))
    | 4, 1, _, _ => exact Or.inr (h _ (by decide +kernel))
    | 4, 2, _, _ => exact Or.inr (h _ (by decide +kernel))
    | 4, 3, _, _ => exact Or.inr (h _ (by decide +kernel))
    | 4, 4, _, _ => exact absurd rfl hij
    | i + 5, _, hi, _ => exact absurd hi (by omega)
    | _, j + 5, _, hj => exact absurd hj (by omega)
theorem z_words (hts : ∀ w ∈ lw_tbl, w.before #[Value.ref b] s = true) : z_TW s := fun w hw hg a => z_gw_warm (a := #[Value.ref b]) hg (State.WarmedH.refl s) (hts w hw)
/-- the classes -/
theorem z_known (hts : ∀ w ∈ lw_tbl, w.before #[Value.ref b] s = true) : ∃ (D : va_G) (AC : Nat → ClassId), va_K D z_cl (z_ty AC) s := by
  have h : ∀ ci : Nat, ∃ q : ClassId × (Nat → Nat), ci < 11 → u_Kn s (z_cls ci).1 (z_cls ci).2.1 (z_cls ci).2.2 q.1 q.2 := by
    intro ci
    by_cases hc : ci < 11
    · have ok := z_cls_ok ci hc
      obtain ⟨cC, iS, hk⟩ := u_known hts ok.2.1 (hts _ ok.2.2.2.2.1)
      exact ⟨(cC, iS), fun _ => hk⟩
    · exact ⟨(0, fun _ => 0), fun q => absurd q hc⟩
  obtain ⟨dd, hd⟩ := Classical.axiomOfChoice h
  have arr : ∀ t : FieldType, (Cond.arrayClass t).before #[Value.ref b] s = true → (∀ C, t ≠ .object C) → ∃ cA : ClassId, ArrOfT s cA t ∧ va_RA s cA t := by
    intro t ht hne
    obtain ⟨cA, kA, comp, h1, h2, h3⟩ := Cond.arrayClass_spec ht
    refine ⟨cA, fun n z => ⟨fun k h => (by cases h), kA, h2, comp, h3⟩, ?_⟩
    cases t with
    | object C => exact absurd rfl (hne C)
    | _ => exact h1
  have arro : ∀ C : String, (Cond.arrayOver (.object C)).before #[Value.ref b] s = true → ∃ cA : ClassId, ArrOfT s cA (.object C) ∧ va_RA s cA (.object C) := by
    intro C ht
    obtain ⟨comp, cA, kA, h1, -, h2, h3, h4⟩ := Cond.arrayOver_spec ht
    exact ⟨cA, fun n z => ⟨fun k h => (by cases h), kA, h2, comp, h3⟩, kA, comp, h2, h3, h1, h4⟩
  obtain ⟨a0, p0, q0⟩ := arr .int (hts _ zw_aint) (fun _ h => by cases h)
  obtain ⟨a1, p1, q1⟩ := arr .boolean (hts _ zw_aboolean) (fun _ h => by cases h)
  obtain ⟨a2, p2, q2⟩ := arr .long (hts _ zw_along) (fun _ h => by cases h)
  obtain ⟨a3, p3, q3⟩ := arro "CookHands$Dish" (hts _ zw_oDish)
  obtain ⟨a4, p4, q4⟩ := arro "CookHands$Kitchen" (hts _ zw_oKitchen)
  refine ⟨(fun ci => (dd ci).1, fun ci => (dd ci).2), fun k => [a0, a1, a2, a3, a4].getD k 0, fun ci q hq => ?_, fun k q hq => ?_⟩
  · have hc : ci < 11 := by
      have := (List.getElem?_eq_some_iff.mp hq).1
      exact this
    have e := (z_cls_ok ci hc).1
    rw [e] at hq
    cases hq
    exact hd ci hc
  · match k, hq with
    | 0, hq => cases hq; exact ⟨p0, q0⟩
    | 1, hq => cases hq; exact ⟨p1, q1⟩
    | 2, hq => cases hq; exact ⟨p2, q2⟩
    | 3, hq => cases hq; exact ⟨p3, q3⟩
    | 4, hq => cases hq; exact ⟨p4, q4⟩
    | k + 5, hq => cases hq
/-- the script's row, with its length far behind it -/
def z_g (L : Nat) (xs : Nat → Int32) : Nat → Int32 := fun j => if j = 100000 then Int32.ofNat L else xs j
def z_M0 (L : Nat) (xs : Nat → Int32) : Mm := (18, (fun a j => if a = 0 then z_g L xs j else 0), (fun _ _ => 0), (fun _ _ => none))
theorem z_world {L : Nat} {xs : Nat → Int32} (hL : L ≤ 3072) (h : z_h s b) (hts : ∀ w ∈ lw_tbl, w.before #[Value.ref b] s = true) (hX : va_X b L xs s s.heap) (hb : b < s.heap.size) : ∃ (D : va_G) (AC : Nat → ClassId) (xa : Nat → Nat) (sv : Option Nat), xa 0 = b ∧ z_X D AC xa sv s.heap.size (z_g L xs) s s.heap ∧ z_P D AC xa sv s.heap.size (z_g L xs) (z_M0 L xs) s.heap := by
  obtain ⟨D, AC, hK⟩ := z_known hts
  obtain ⟨sv, hsv⟩ := z_stf h hts
  obtain ⟨adK, adV, hS, hE⟩ := z_sts h
  obtain ⟨t1, hz1, ht1⟩ := z_st1 h hts
  obtain ⟨t2, hz2, ht2⟩ := z_st2 h hts
  obtain ⟨t3, hz3, ht3⟩ := z_st3 h hts
  obtain ⟨t4, hz4, ht4⟩ := z_st4 h hts
  obtain ⟨t5, hz5, ht5⟩ := z_st5 h hts
  obtain ⟨t6, hz6, ht6⟩ := z_st6 h hts
  refine ⟨D, AC, fun k => [b, t1, t2, t3, t4, t5, t6, adK 0, adK 1, adK 2, adK 3, adK 4, adV 0, adV 1, adV 2, adV 3, adV 4].getD k 0, sv, rfl, ?_, ?_⟩
  · refine ⟨z_words hts, hK, ⟨va_AO.of (hts _ zw_oDish), va_AO.of (hts _ zw_oKitchen)⟩, fun k h1 h2 => ?_, hsv, z_stc1 h hts, ?_, fun t ht => ?_, ?_⟩
    · match k, h1, h2 with
      | 1, _, _ => exact ⟨hz1, ht1⟩
      | 2, _, _ => exact ⟨hz2, ht2⟩
      | 3, _, _ => exact ⟨hz3, ht3⟩
      | 4, _, _ => exact ⟨hz4, ht4⟩
      | 5, _, _ => exact ⟨hz5, ht5⟩
      | 6, _, _ => exact ⟨hz6, ht6⟩
      | k + 7, _, h2 => exact absurd h2 (by omega)
    · refine ⟨fun i hi => ?_, fun i j hi hj e => ?_⟩
      · have q := hS.1 i hi
        match i, hi with
        | 0, _ => exact q
        | 1, _ => exact q
        | 2, _ => exact q
        | 3, _ => exact q
        | 4, _ => exact q
        | i + 5, hi => exact absurd hi (by omega)
      · refine hS.2 i j hi hj ?_
        match i, j, hi, hj with
        | 0, 0, _, _ => exact e
        | 0, 1, _, _ => exact e
        | 0, 2, _, _ => exact e
        | 0, 3, _, _ => exact e
        | 0, 4, _, _ => exact e
        | 1, 0, _, _ => exact e
        | 1, 1, _, _ => exact e
        | 1, 2, _, _ => exact e
        | 1, 3, _, _ => exact e
        | 1, 4, _, _ => exact e
        | 2, 0, _, _ => exact e
        | 2, 1, _, _ => exact e
        | 2, 2, _, _ => exact e
        | 2, 3, _, _ => exact e
        | 2, 4, _, _ => exact e
        | 3, 0, _, _ => exact e
        | 3, 1, _, _ => exact e
        | 3, 2, _, _ => exact e
        | 3, 3, _, _ => exact e
        | 3, 4, _, _ => exact e
        | 4, 0, _, _ => exact e
        | 4, 1, _, _ => exact e
        | 4, 2, _, _ => exact e
        | 4, 3, _, _ => exact e
        | 4, 4, _, _ => exact e
        | i + 5, _, hi, _ => exact absurd hi (by omega)
        | _, j + 5, _, hj => exact absurd hj (by omega)
    · have key : ∀ t ∈ z_sT, 7 ≤ t.2.2 ∧ t.2.2 < 12 ∧ z_own t.1 = "CookHands$Card" ∧ t.2.1 = [57, 63, 65, 67, 69].getD (t.2.2 - 7) 0 := by decide +kernel
      obtain ⟨k1, k2, k3, k4⟩ := key t ht
      have e := hE (t.2.2 - 7) (by omega)
      refine vk_R.of (A := #[Value.ref b]) (hts _ (z_sT_ok t ht)) ?_
      rw [k3, k4]
      have e2 : ([b, t1, t2, t3, t4, t5, t6, adK 0, adK 1, adK 2, adK 3, adK 4, adV 0, adV 1, adV 2, adV 3, adV 4].getD t.2.2 0) = adK (t.2.2 - 7) := by
        have : t.2.2 = 7 ∨ t.2.2 = 8 ∨ t.2.2 = 9 ∨ t.2.2 = 10 ∨ t.2.2 = 11 := by omega
        rcases this with q | q | q | q | q <;> rw [q] <;> rfl
      show _ = some (Value.ref ([b, t1, t2, t3, t4, t5, t6, adK 0, adK 1, adK 2, adK 3, adK 4, adV 0, adV 1, adV 2, adV 3, adV 4].getD t.2.2 0))
      rw [e2]
      exact e
    · obtain ⟨scr, h1, h2, h3, h4, h5⟩ := hX
      have eL : (z_g L xs 100000).toNatClampNeg = L := by
        show (nI L).toNatClampNeg = L
        exact nI_clamp (by omega)
      refine ⟨scr, h1, h2, h3, by rw [eL, h4]; exact Nat.le_refl _, by rw [eL, h4] <;> rfl, fun j hj => ?_, fun q => by unfold z_A at q; exact absurd hb (Nat.not_lt.mpr q)⟩
      rw [eL] at hj
      rw [h5 j hj]
      show some (Value.int (xs j)) = some (Value.int (if j = 100000 then Int32.ofNat L else xs j))
      rw [if_neg (by omega)]
  · refine ⟨fun k q hk => ?_, fun _ => by show s.heap.size = s.heap.size + (18 - 18); omega, Nat.le_refl _, (by show 18 ≤ 151; decide), ?_⟩
    · exact absurd hk (by show ¬ ([] : va_W)[k]? = some q; simp)
    · funext j
      simp [z_M0]
/-- the law, once its run in the small machine is known -/
theorem z_law {p : Program} {e : Env} {m : MethodId} {below : List Frame} {meth : Method} {c : Code} (l : Launch) {L : Nat} {xs : Nat → Int32} (hL : L ≤ 3072) (C0 : lw_At p s m meth c b L xs) (hT : TT 0 0 [some (.ref 0), none, none, none] [] (z_M0 L xs) (fun r M' => r = some (.int 1) ∧ M'.1 ≤ 151)) : W p l e room_1 s m #[Value.ref b] below meth c s.heap [] 0 0 (lw_Z below #[Value.ref b] s) (entryFrame m ([Value.ref b] : List Value).toArray 4) := by
  obtain ⟨hx, hcb, hr, hml, hown, hts, hX, hbl, hlocks, hgv⟩ := C0
  obtain ⟨D, AC, xa, sv, hxa, hW, hP⟩ := z_world hL (flat_of_before _ hgv) hts hX hbl
  obtain ⟨n, r, Me, hrun, hr1, hMe⟩ := hT
  subst hr1
  have hF : z_Fr D AC xa sv s.heap.size (z_g L xs) 0 p l e room_1 s m #[Value.ref b] below meth c :=
    ⟨hx, hcb, hml, hown, hW, (fun h => (by cases h)), (by decide), (by decide), Nat.le_refl _, (by decide)⟩
  have key := z_loop (Q := lw_Z below #[Value.ref b] s) (z_M0 L xs) Me (some (.int 1)) hF ?_ ?_ n (fun k _ => z_all k) 0 _ [] (z_M0 L xs) (Nat.le_refl _) hrun
  · rw [Nat.sub_self, Nat.sub_self] at key
    have hl := lv_entry ([Value.ref b]) (n := 4) (Nat.le_of_ble_eq_true rfl)
    rw [lg_entry_eq]
    refine key s.heap [] _ hP va_S.rf ⟨hl.1, hl.2.1, fun i v h => ?_⟩ (hl.1.trans hml.symm)
    match i, h with
    | 0, h =>
      cases h
      rw [z_tv_lo (by omega), hxa]
      exact hl.2.2 (0, _) List.mem_cons_self
    | 1, h => cases h
    | 2, h => cases h
    | 3, h => cases h
    | i + 4, h => cases h
  · refine ⟨?_, ?_⟩
    · show Me.1 - 18 ≤ 600000
      omega
    · show z_sl Me.1 - z_sl 18 ≤ 7302250
      have := z_sl_mono hMe
      have e : z_sl 151 ≤ 7302250 := by decide +kernel
      omega
  · intro pc len ins L1 S hc hs
    obtain ⟨raw, hdg, hi, hR⟩ := z_chk (y := 0) (by decide) hc
    cases ins with
    | ret q =>
      obtain ⟨x, hSS, hn, h⟩ := z_rti_inv hs
      · subst hSS
        cases h
        obtain ⟨oa1, o4⟩ := zi_and hi
        obtain ⟨oa2, o3⟩ := zi_and oa1
        obtain ⟨oa3, o2⟩ := zi_and oa2
        have o2 := zi_beq o2
        subst o2
        rw [zi_dec oa3] at hdg
        intro H locs ls hP1 hS1 hL1 hn1
        refine va_forget (fun q hq => hS1.2.2 q hq) ?_
        refine W.widen (k := 600000) (n := 7302250) (by show Me.1 - 18 ≤ 600000; omega) (by
          show z_sl Me.1 - z_sl 18 ≤ 7302250
          have := z_sl_mono hMe
          have e : z_sl 151 ≤ 7302250 := by decide +kernel
          omega) ?_
        exact lw_ret hx hcb hr hlocks hdg
    | lreturn =>
      obtain ⟨x, hSS, h⟩ := z_rtl_inv hs
      cases h
    | areturn =>
      obtain ⟨x, hSS, h⟩ := z_rtr_inv hs
      cases h
    | return_ =>
      obtain ⟨hSS, h⟩ := z_rtv_inv hs
      cases h
    | _ => exact absurd hs (z_noret (fun _ q => by cases q) (fun q => by cases q) (fun q => by cases q) (fun q => by cases q))
end

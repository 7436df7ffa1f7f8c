section
variable {D : va_G} {AC : Nat → ClassId} {xa : Nat → Nat} {sv : Option Nat} {bs : Nat} {g : Nat → Int32} {y : Nat} {p : Program} {l : Launch} {e : Env} {R : Room} {s : State} {m : MethodId} {args : Array Value} {below : List Frame} {meth : Method} {c : Code} {Q : State → Prop}
variable {pc len cn sn pc' : Nat} {raw : Instr} {L L' : Lo} {S S' : List Value} {M M' : Mm}
theorem z_run_nx : ∀ (n y pc : Nat) (L : Lo) (S : List Value) (M : Mm) (r : Option Value) (M' : Mm), z_run n y pc L S M = some (r, M') → M.1 ≤ M'.1 := by
  intro n
  induction n with
  | zero => intro y pc L S M r M' h; cases h
  | succ n ih =>
    intro y pc L S M r M' h
    rw [z_run] at h
    cases hc : z_cd y pc with
    | none => rw [hc] at h; cases h
    | some q =>
      obtain ⟨ins, len⟩ := q
      rw [hc] at h
      dsimp only at h
      cases hs : z_st ins len pc L S M with
      | none => rw [hs] at h; cases h
      | some z =>
        rw [hs] at h
        rcases z with ⟨pc', L', S', M2⟩ | v | ⟨j, as, L', S'⟩
        · have h1 := ih _ _ _ _ _ _ _ h
          rcases z_st_nx hs with q | q
          · omega
          · rw [q] at h1
            have : M.1 + 1 ≤ M'.1 := h1
            omega
        · cases h
          exact Nat.le_refl _
        · dsimp only at h
          cases hr : z_run n j 0 (z_ent (z_ml j) as) [] M with
          | none => rw [hr] at h; cases h
          | some w =>
            obtain ⟨v, M3⟩ := w
            rw [hr] at h
            exact Nat.le_trans (ih _ _ _ _ _ _ _ hr) (ih _ _ _ _ _ _ _ h)
/-- the locals at the start stand for the arguments -/
theorem z_ent_len : ∀ (as : List Value) (n : Nat), z_wd as ≤ n → (z_ent n as).length = n
  | [], n, _ => by simp [z_ent]
  | v :: vs, n, h => by
    unfold z_wd at h
    unfold z_ent
    cases hc : z_cat2 v with
    | true =>
      rw [hc] at h
      have h : z_wd vs + 2 ≤ n := h
      show (some v :: none :: z_ent (n - 2) vs).length = n
      rw [List.length_cons, List.length_cons, z_ent_len vs (n - 2) (by omega)]
      omega
    | false =>
      rw [hc] at h
      have h : z_wd vs + 1 ≤ n := h
      show (some v :: z_ent (n - 1) vs).length = n
      rw [List.length_cons, z_ent_len vs (n - 1) (by omega)]
      omega
theorem z_cat2_tv (v : Value) : (z_cat2 v = true → (z_tv xa sv bs v).category = 2) ∧ (z_cat2 v = false → ¬ (z_tv xa sv bs v).category = 2) := by
  rw [z_tv_cat]
  unfold z_cat2
  exact ⟨fun h => zi_beq h, fun h q => by rw [q] at h; cases h⟩
theorem z_ent_get : ∀ (as : List Value) (n i k : Nat) (v : Value), (z_ent n as)[i]? = some (some v) → (k + i, z_tv xa sv bs v) ∈ lv_args k (as.map (z_tv xa sv bs))
  | [], n, i, k, v, h => by
    unfold z_ent at h
    rw [List.getElem?_replicate] at h
    split at h <;> cases h
  | u :: us, n, i, k, v, h => by
    unfold z_ent at h
    rw [List.map_cons]
    unfold lv_args
    cases hc : z_cat2 u with
    | true =>
      rw [hc] at h
      have h : (some u :: none :: z_ent (n - 2) us)[i]? = some (some v) := h
      rw [if_pos ((z_cat2_tv u).1 hc)]
      match i, h with
      | 0, h => cases h; exact List.mem_cons_self
      | 1, h => cases h
      | i + 2, h =>
        have := z_ent_get us (n - 2) i (k + 2) v h
        rw [show k + 2 + i = k + (i + 2) by omega] at this
        exact List.mem_cons_of_mem _ this
    | false =>
      rw [hc] at h
      have h : (some u :: z_ent (n - 1) us)[i]? = some (some v) := h
      rw [if_neg ((z_cat2_tv u).2 hc)]
      match i, h with
      | 0, h => cases h; exact List.mem_cons_self
      | i + 1, h =>
        have := z_ent_get us (n - 1) i (k + 1) v h
        rw [show k + 1 + i = k + (i + 1) by omega] at this
        exact List.mem_cons_of_mem _ this
theorem z_wd_sl : ∀ (as : List Value), (lg_sl (as.map (z_tv xa sv bs))).length = z_wd as
  | [] => rfl
  | v :: vs => by
    rw [List.map_cons]
    unfold lg_sl z_wd
    rw [List.flatMap_cons, List.length_append]
    have ih := z_wd_sl vs
    unfold lg_sl at ih
    rw [ih]
    cases hc : z_cat2 v with
    | true => rw [if_pos ((z_cat2_tv v).1 hc)]; show 2 + _ = z_wd vs + 2; omega
    | false => rw [if_neg ((z_cat2_tv v).2 hc)]; show 1 + _ = z_wd vs + 1; omega
/-- what a method finds at its start -/
def z_PP (D : va_G) (AC : Nat → ClassId) (xa : Nat → Nat) (sv : Option Nat) (bs : Nat) (g : Nat → Int32) (M : Mm) (U : State) : Prop := z_P D AC xa sv bs g M U.heap ∧ z_X D AC xa sv bs g U U.heap ∧ bs ≤ U.heap.size
def z_Qr (D : va_G) (AC : Nat → ClassId) (xa : Nat → Nat) (sv : Option Nat) (bs : Nat) (g : Nat → Int32) (v : Option Value) (M : Mm) : Array Value → State → Outcome → State → Prop := fun _ st oc t => oc = .returned (v.map (z_tv xa sv bs)) ∧ z_P D AC xa sv bs g M t.heap ∧ va_F (z_A bs) st t
def z_Rm (j nc ns : Nat) : Room := { frames := z_rFL.getD j 0, cells := nc, slots := ns, locals := z_rLL.getD j 0 }
def z_wsj (j : Nat) : List Cond := [.code (z_nm j) (z_by j) (z_ml j) (z_re j)]
/-- a method's contract at one run of it -/
def z_MetOf (l : Launch) (D : va_G) (AC : Nat → ClassId) (xa : Nat → Nat) (sv : Option Nat) (bs : Nat) (g : Nat → Int32) (j : Nat) (as : List Value) (M : Mm) (v : Option Value) (M1 : Mm) : Prop :=
  Met l (z_nm j) (z_wsj j) (z_Rm j (M1.1 - M.1) (z_sl M1.1 - z_sl M.1)) (va_Pc (as.map (z_tv xa sv bs)) (z_PP D AC xa sv bs g M)) (z_Qr D AC xa sv bs g v M1) (M1.1 - M.1) (z_sl M1.1 - z_sl M.1) (z_A bs)
theorem z_blind {as : List Value} : FrameBlind (va_Pc (as.map (z_tv xa sv bs)) (z_PP D AC xa sv bs g M)) := fun a U gg mk q => by
  obtain ⟨q0, q1, q2, q3⟩ := q
  exact ⟨q0, q1, z_X.move (U := U.calling gg mk a) q2 (State.WarmedH.refl U) (fun _ _ _ => rfl), q3⟩
theorem z_start (hF : z_Fr D AC xa sv bs g y p l e R s m args below meth c) {H : Heap} {locs : List Loc} (hP : z_P D AC xa sv bs g M H) (hS : va_S (z_A bs) s.heap H locs) {U : State} (hU : U.heap = H) (hW : s.WarmedH U.vm) : z_PP D AC xa sv bs g M U := by
  refine ⟨by rw [hU]; exact hP, ?_, by rw [hU]; exact Nat.le_trans hF.2.2.2.2.2.2.2.2.1 hS.1⟩
  rw [hU]
  exact z_X.move hF.2.2.2.2.1 hW hS.2.1
/-- behind a call -/
theorem z_back {st0 rest : List Value} {H : Heap} {locs : List Loc} {ls : Array Slot} {v : Option Value} {M1 : Mm} {mc ms : Nat} {as : Array Value} (hS : va_S (z_A bs) s.heap H locs) (hr : va_Run p l e R s m args below meth c H locs cn sn mc ms (F0 m pc ls st0) (rest.map (z_tv xa sv bs)) (z_Qr D AC xa sv bs g v M1 as) (z_A bs)) (hL : z_LR xa sv bs ls L) (hn : ls.size = c.maxLocals)
    (k : z_Kk D AC xa sv bs g p l e R s m args below meth c Q (cn + mc) (sn + ms) (pc + 3) L (v.toList ++ rest) M1) : W p l e R s m args below meth c H locs cn sn Q (F0 m pc ls st0) := by
  intro T hT X
  obtain ⟨v', st₀, t, T', L1, h0, X', hL1, e1, e2, ⟨hq, hP1, hz, hk⟩, st⟩ := hr T hT X
  cases hq
  rw [h0] at hz hk
  have hS1 : va_S (z_A bs) s.heap T'.heap (locs ++ L1) := ⟨Nat.le_trans hS.1 (by rw [e1]; exact hz), fun q h1 h2 => by rw [e1, hk q (Nat.lt_of_lt_of_le h1 hS.1) h2]; exact hS.2.1 q h1 h2, fun q hq => by
    rcases List.mem_append.mp hq with h | h
    · exact hS.2.2 q h
    · exact hL1 q h⟩
  have kk := k T'.heap (locs ++ L1) ls (by rw [e1]; exact hP1) hS1 hL hn
  obtain ⟨t2, a1, b1⟩ := kk T' rfl X'
  refine ⟨t2, st t2 ?_, b1⟩
  rw [List.map_append] at a1
  cases v <;> exact a1
theorem z_mT_rg : ∀ t ∈ z_mT, 1 ≤ t.2.2 ∧ t.2.2 < 246 := by decide +kernel
/-- what the tables say of a call, both ways of linking -/
theorem z_callB (hF : z_Fr D AC xa sv bs g y p l e R s m args below meth c) {j ix : Nat} (ht : (z_owL.getD y 0, ix, j) ∈ z_mT) (hroom : z_rFL.getD j 0 + 1 ≤ z_rFL.getD y 0 ∧ 8 + (z_ml j + 11) + z_rLL.getD j 0 ≤ z_rLL.getD y 0) {nc ns n : Nat} (hn : (parseMethodDescriptor (z_nm j).desc).map (fun d => d.parameters.length) = some n) :
    CallB R s args (z_own (z_owL.getD y 0)) ix (z_nm j) (z_by j) (z_ml j) (z_re j) (z_wsj j) (z_Rm j nc ns) nc ns n ∨ va_CN R s args (z_own (z_owL.getD y 0)) ix (z_nm j) "CookHands" (z_by j) (z_ml j) (z_re j) (z_wsj j) (z_Rm j nc ns) nc ns n := by
  obtain ⟨r1, r2⟩ := z_mT_rg _ ht
  obtain ⟨m1, m2, -⟩ := z_mok_all j r1 r2
  have hpl := z_mpl_all j r2
  unfold z_mpl at hpl
  have hy := zi_dec (zi_and (zi_and (zi_and hpl).1).1).1
  have hcode : ∀ w ∈ z_wsj j, ∀ (a' : Array Value) (U : State), s.WarmedH U.vm → w.before a' U = true := by
    intro w hw a' U hW
    rw [List.mem_singleton.mp hw]
    exact hF.2.2.2.2.1.1.warm hW _ m1 rfl a'
  have hsig : ∀ sig, parseMethodDescriptor (z_nm j).desc = some sig → n = sig.parameters.length := fun sig h => by
    rw [h] at hn
    exact (Option.some.inj hn).symm
  have f1 : z_rFL.getD j 0 + 1 ≤ R.frames := Nat.le_trans hroom.1 hF.2.2.2.2.2.2.1
  have f2 : 8 + (z_ml j + 11) + z_rLL.getD j 0 ≤ R.locals := Nat.le_trans hroom.2 hF.2.2.2.2.2.2.2.1
  rcases z_mT_ok _ ht with q | q
  · exact Or.inl ⟨rfl, rfl, f1, f2, hcode, List.mem_singleton.mpr rfl, hF.tw m1 rfl _, hF.tw m2 rfl _, hy, hsig, hF.tw q rfl _⟩
  · exact Or.inr ⟨⟨rfl, rfl, f1, f2, hcode, List.mem_singleton.mpr rfl⟩, hF.tw m1 rfl _, hF.tw m2 rfl _, hy, hsig, hF.tw q rfl _⟩
theorem z_fix (hF : z_Fr D AC xa sv bs g y p l e R s m args below meth c) : CallFix p m c (z_by y) c.maxLocals s args z_tw (z_own (z_owL.getD y 0)) := ⟨hF.1, hF.2.1, rfl, hF.2.2.2.1, hF.2.2.2.2.1.1.on⟩
theorem z_split {n : Nat} {S : List Value} (h : n ≤ S.length) : S = ((S.take n).reverse).reverse ++ S.drop n := by rw [List.reverse_reverse, List.take_append_drop]
theorem z_callS (hF : z_Fr D AC xa sv bs g y p l e R s m args below meth c) {j ix : Nat} {v : Option Value} {M1 : Mm} (hdg : decode (z_by y) pc = .ok (.invokestatic ix, 3)) (ht : (z_owL.getD y 0, ix, j) ∈ z_mT) (hroom : z_rFL.getD j 0 + 1 ≤ z_rFL.getD y 0 ∧ 8 + (z_ml j + 11) + z_rLL.getD j 0 ≤ z_rLL.getD y 0) (h0 : z_rk j = 0) (h1 : z_na j ≤ S.length) (h2 : (S.drop (z_na j)).length ≤ 4)
    (hM : z_MetOf l D AC xa sv bs g j (S.take (z_na j)).reverse M v M1) (hrm : cn + (M1.1 - M.1) ≤ R.cells ∧ sn + (z_sl M1.1 - z_sl M.1) ≤ R.slots) (k : z_Kk D AC xa sv bs g p l e R s m args below meth c Q (cn + (M1.1 - M.1)) (sn + (z_sl M1.1 - z_sl M.1)) (pc + 3) L (v.toList ++ S.drop (z_na j)) M1) : z_Kk D AC xa sv bs g p l e R s m args below meth c Q cn sn pc L S M := by
  intro H locs ls hP hS hL hn
  obtain ⟨r1, r2⟩ := z_mT_rg _ ht
  obtain ⟨m1, m2, m3, -⟩ := z_mok_all j r1 r2
  obtain ⟨m3, m4⟩ := m3 h0
  have hp : PreS s H (va_Pc ((S.take (z_na j)).reverse.map (z_tv xa sv bs)) (z_PP D AC xa sv bs g M)) ((S.take (z_na j)).reverse.map (z_tv xa sv bs)) := ⟨z_blind, fun U hU hW => ⟨rfl, z_start hF hP hS hU hW⟩⟩
  have hst : (F0 m pc ls (S.map (z_tv xa sv bs))).stack = ((S.take (z_na j)).reverse.map (z_tv xa sv bs)).reverse ++ (S.drop (z_na j)).map (z_tv xa sv bs) := by
    show S.map (z_tv xa sv bs) = _
    rw [← List.map_reverse, ← List.map_append, ← z_split h1]
  have hlen : ((S.take (z_na j)).reverse.map (z_tv xa sv bs)).length = z_na j := by simp; omega
  have hW : 2 * (F0 m pc ls (S.map (z_tv xa sv bs))).monitorRoom + (((S.drop (z_na j)).map (z_tv xa sv bs)).map fun v => v.category).sum ≤ 8 := lv_room (z_cats h2)
  rcases z_callB hF ht hroom (nc := M1.1 - M.1) (ns := z_sl M1.1 - z_sl M.1) m4 with cb | cb
  · exact z_back hS (va_runS (z_fix hF) hM ⟨cb, hF.tw m3 rfl _⟩ hp rfl hlen hn hst hW hdg hrm) hL hn k
  · exact z_back hS (va_runSN (z_fix hF) hM ⟨cb, hF.tw m3 rfl _, trivial⟩ hp rfl hlen hn hst hW hdg hrm) hL hn k
/-- the receiver's cell -/
theorem z_recv (hF : z_Fr D AC xa sv bs g y p l e R s m args below meth c) {H : Heap} {locs : List Loc} {a j : Nat} (hP : z_P D AC xa sv bs g M H) (hS : va_S (z_A bs) s.heap H locs) (hj1 : 1 ≤ j) (hj2 : j < 246) (h0 : z_rk j ≠ 0) (h : z_ok M.1 a (z_rk j) = true) : ∃ b, z_tv xa sv bs (.ref a) = .ref b ∧ ∃ cellB : Cell, H[b]? = some cellB ∧ cellB.vm.isStatics = false ∧ s.vm.findClass (z_nm j).cls = some cellB.cls := by
  obtain ⟨-, -, -, m4, -⟩ := z_mok_all j hj1 hj2
  obtain ⟨-, -, -, m5, m6⟩ := m4 h0
  by_cases h8 : z_rk j = 8
  · rw [h8] at h
    obtain ⟨u1, u2⟩ := z_kd_8 (z_ok_kd h).2
    refine ⟨xa a, z_tv_lo (by omega), ?_⟩
    rw [m5 h8]
    have := vk_recv (i := a - 7) hF.2.2.2.2.1.2.2.2.2.2.2.1 (by omega) hS
    try dsimp only at this
    rw [show 7 + (a - 7) = a by omega] at this
    exact this
  · obtain ⟨q1, q2, q3⟩ := m6 h8
    obtain ⟨e1, e2⟩ := z_ok_kd h
    obtain ⟨u1, u2⟩ := z_kd_up e2 (by omega)
    refine ⟨bs + (a - 18), z_tv_hi u1, ?_⟩
    rw [q3]
    have hw := z_w_get (AC := AC) (xa := xa) (sv := sv) (bs := bs) (M := M) u1 e1
    rw [z_en_obj (ci := z_rk j - 10) (by rw [e2]; omega)] at hw
    exact va_recv hF.K hP.1 (z_cls_ok (z_rk j - 10) (by omega)).1 hw
theorem z_callV (hF : z_Fr D AC xa sv bs g y p l e R s m args below meth c) {j ix a : Nat} {as r : List Value} {v : Option Value} {M1 : Mm} (hdg : decode (z_by y) pc = .ok (.invokevirtual ix, 3)) (ht : (z_owL.getD y 0, ix, j) ∈ z_mT) (hroom : z_rFL.getD j 0 + 1 ≤ z_rFL.getD y 0 ∧ 8 + (z_ml j + 11) + z_rLL.getD j 0 ≤ z_rLL.getD y 0) (h0 : z_rk j ≠ 0) (hin : z_inL.getD j false = false) (h1 : as.length + 1 = z_na j) (h2 : r.length ≤ 4) (hok : z_ok M.1 a (z_rk j) = true)
    (hM : z_MetOf l D AC xa sv bs g j (.ref a :: as) M v M1) (hrm : cn + (M1.1 - M.1) ≤ R.cells ∧ sn + (z_sl M1.1 - z_sl M.1) ≤ R.slots) (k : z_Kk D AC xa sv bs g p l e R s m args below meth c Q (cn + (M1.1 - M.1)) (sn + (z_sl M1.1 - z_sl M.1)) (pc + 3) L (v.toList ++ r) M1) : z_Kk D AC xa sv bs g p l e R s m args below meth c Q cn sn pc L (as.reverse ++ .ref a :: r) M := by
  intro H locs ls hP hS hL hn
  obtain ⟨r1, r2⟩ := z_mT_rg _ ht
  obtain ⟨m1, m2, -, m4, m5, -⟩ := z_mok_all j r1 r2
  obtain ⟨m3, m4, m6, -⟩ := m4 h0
  obtain ⟨b, hb, hcell⟩ := z_recv hF hP hS r1 r2 h0 hok
  have hp : PreV s H (z_nm j).cls b (va_Pc ((.ref a :: as).map (z_tv xa sv bs)) (z_PP D AC xa sv bs g M)) (as.map (z_tv xa sv bs)) := ⟨z_blind, hcell, fun U hU hW => ⟨by rw [List.map_cons, hb], z_start hF hP hS hU hW⟩⟩
  have hst : (F0 m pc ls ((as.reverse ++ .ref a :: r).map (z_tv xa sv bs))).stack = (as.map (z_tv xa sv bs)).reverse ++ .ref b :: r.map (z_tv xa sv bs) := by
    show (as.reverse ++ .ref a :: r).map (z_tv xa sv bs) = _
    rw [List.map_append, List.map_cons, hb, List.map_reverse]
  have hlen : (as.map (z_tv xa sv bs)).length = z_na j - 1 := by rw [List.length_map]; omega
  have hW : 2 * (F0 m pc ls ((as.reverse ++ .ref a :: r).map (z_tv xa sv bs))).monitorRoom + ((r.map (z_tv xa sv bs)).map fun v => v.category).sum ≤ 8 := lv_room (z_cats h2)
  have hargs : (Value.ref b :: as.map (z_tv xa sv bs)).toArray = ((.ref a :: as).map (z_tv xa sv bs)).toArray := by rw [List.map_cons, hb]
  rcases z_callB hF ht hroom (nc := M1.1 - M.1) (ns := z_sl M1.1 - z_sl M.1) m4 with cb | cb
  · exact z_back hS (va_runV (z_fix hF) hM ⟨cb, hF.tw m3 rfl _, hF.tw (m5 hin h0) rfl _⟩ hp rfl hlen hn hst hW hdg hrm) hL hn k
  · exact z_back hS (va_runVN (z_fix hF) hM ⟨cb, hF.tw m3 rfl _, hF.tw (m5 hin h0) rfl _⟩ hp rfl hlen hn hst hW hdg hrm) hL hn k
theorem z_callI (hF : z_Fr D AC xa sv bs g y p l e R s m args below meth c) {j ix a : Nat} {as r : List Value} {v : Option Value} {M1 : Mm} (hdg : decode (z_by y) pc = .ok (.invokespecial ix, 3)) (ht : (z_owL.getD y 0, ix, j) ∈ z_mT) (hroom : z_rFL.getD j 0 + 1 ≤ z_rFL.getD y 0 ∧ 8 + (z_ml j + 11) + z_rLL.getD j 0 ≤ z_rLL.getD y 0) (hin : z_inL.getD j false = true) (h1 : as.length + 1 = z_na j) (h2 : r.length ≤ 4) (hok : z_ok M.1 a (z_rk j) = true)
    (hM : z_MetOf l D AC xa sv bs g j (.ref a :: as) M v M1) (hrm : cn + (M1.1 - M.1) ≤ R.cells ∧ sn + (z_sl M1.1 - z_sl M.1) ≤ R.slots) (k : z_Kk D AC xa sv bs g p l e R s m args below meth c Q (cn + (M1.1 - M.1)) (sn + (z_sl M1.1 - z_sl M.1)) (pc + 3) L (v.toList ++ r) M1) : z_Kk D AC xa sv bs g p l e R s m args below meth c Q cn sn pc L (as.reverse ++ .ref a :: r) M := by
  intro H locs ls hP hS hL hn
  obtain ⟨r1, r2⟩ := z_mT_rg _ ht
  obtain ⟨m1, m2, -, m4, m5, m7⟩ := z_mok_all j r1 r2
  obtain ⟨n1, n2, h0⟩ := m7 hin
  obtain ⟨m3, m4, m6, -⟩ := m4 h0
  obtain ⟨b, hb, hcell⟩ := z_recv hF hP hS r1 r2 h0 hok
  have hp : PreS s H (va_Pc ((.ref a :: as).map (z_tv xa sv bs)) (z_PP D AC xa sv bs g M)) (.ref b :: as.map (z_tv xa sv bs)) := ⟨z_blind, fun U hU hW => ⟨by rw [List.map_cons, hb], z_start hF hP hS hU hW⟩⟩
  have hst : (F0 m pc ls ((as.reverse ++ .ref a :: r).map (z_tv xa sv bs))).stack = (as.map (z_tv xa sv bs)).reverse ++ .ref b :: r.map (z_tv xa sv bs) := by
    show (as.reverse ++ .ref a :: r).map (z_tv xa sv bs) = _
    rw [List.map_append, List.map_cons, hb, List.map_reverse]
  have hlen : (as.map (z_tv xa sv bs)).length = z_na j - 1 := by rw [List.length_map]; omega
  have hW : 2 * (F0 m pc ls ((as.reverse ++ .ref a :: r).map (z_tv xa sv bs))).monitorRoom + ((r.map (z_tv xa sv bs)).map fun v => v.category).sum ≤ 8 := lv_room (z_cats h2)
  rcases z_callB hF ht hroom (nc := M1.1 - M.1) (ns := z_sl M1.1 - z_sl M.1) m4 with cb | cb
  · rw [n2] at cb
    exact z_back hS (va_runI (z_fix hF) hM ⟨cb, n1, hF.tw m3 rfl _⟩ hp rfl hlen hn hst hW hdg hrm) hL hn k
  · rw [n2] at cb
    exact z_back hS (va_runIN (z_fix hF) hM ⟨cb, n1, hF.tw m3 rfl _⟩ hp rfl hlen hn hst hW hdg hrm) hL hn k
/-- the check of an instruction, out of the method's -/
theorem z_lk_mem {ins : Instr} {n : Nat} : ∀ (cl : List (Nat × Instr × Nat)), z_lk pc cl = some (ins, n) → (pc, ins, n) ∈ cl
  | [], h => by cases h
  | (q, i) :: t, h => by
    unfold z_lk at h
    cases hq : Nat.beq q pc with
    | true =>
      rw [hq] at h
      cases h
      rw [zi_beq hq]
      exact List.mem_cons_self
    | false =>
      rw [hq] at h
      exact List.mem_cons_of_mem _ (z_lk_mem t h)
theorem z_chk {ins : Instr} {n : Nat} (hy : y < 246) (h : z_cd y pc = some (ins, n)) : ∃ raw, decode (z_by y) pc = .ok (raw, n) ∧ okI (z_owL.getD y 0) (z_rtL.getD y 0) (z_inL.getD y false) pc raw n ins = true ∧ okR y ins = true := by
  have hm := z_lk_mem _ h
  have hc := List.all_eq_true.mp (z_ok_all y hy) _ hm
  obtain ⟨h1, h2⟩ := zi_and hc
  cases hd : decode (z_by y) pc with
  | error q => rw [show decode (z_by y) (pc, ins, n).1 = decode (z_by y) pc from rfl, hd] at h2; cases h2
  | ok q =>
    obtain ⟨raw, n'⟩ := q
    rw [show decode (z_by y) (pc, ins, n).1 = decode (z_by y) pc from rfl, hd] at h2
    obtain ⟨h3, h4⟩ := zi_and (show (Nat.beq n' n && okI (z_owL.getD y 0) (z_rtL.getD y 0) (z_inL.getD y false) pc raw n' ins) = true from h2)
    have h3 := zi_beq h3
    subst h3
    exact ⟨raw, rfl, h4, h1⟩
end
/-- every run of every method, by the fuel -/
def z_Hyp (l : Launch) (D : va_G) (AC : Nat → ClassId) (xa : Nat → Nat) (sv : Option Nat) (bs : Nat) (g : Nat → Int32) (n : Nat) : Prop := ∀ (j : Nat) (as : List Value) (M M1 : Mm) (v : Option Value), 1 ≤ j → j < 246 → z_wd as ≤ z_ml j → z_run n j 0 (z_ent (z_ml j) as) [] M = some (v, M1) → z_MetOf l D AC xa sv bs g j as M v M1
section
variable {D : va_G} {AC : Nat → ClassId} {xa : Nat → Nat} {sv : Option Nat} {bs : Nat} {g : Nat → Int32} {y : Nat} {p : Program} {l : Launch} {e : Env} {R : Room} {s : State} {m : MethodId} {args : Array Value} {below : List Frame} {meth : Method} {c : Code} {Q : State → Prop}
theorem z_loop (M0 Me : Mm) (v : Option Value) (hF : z_Fr D AC xa sv bs g y p l e R s m args below meth c) (hcap : Me.1 - M0.1 ≤ R.cells ∧ z_sl Me.1 - z_sl M0.1 ≤ R.slots)
    (hret : ∀ (pc len : Nat) (ins : Instr) (L : Lo) (S : List Value), z_cd y pc = some (ins, len) → z_st ins len pc L S Me = some (.inr (.inl v)) → z_Kk D AC xa sv bs g p l e R s m args below meth c Q (Me.1 - M0.1) (z_sl Me.1 - z_sl M0.1) pc L S Me) :
    ∀ n, (∀ k, k < n → z_Hyp l D AC xa sv bs g k) → ∀ (pc : Nat) (L : Lo) (S : List Value) (M : Mm), M0.1 ≤ M.1 → z_run n y pc L S M = some (v, Me) → z_Kk D AC xa sv bs g p l e R s m args below meth c Q (M.1 - M0.1) (z_sl M.1 - z_sl M0.1) pc L S M := by
  intro n
  induction n with
  | zero => intro _ pc L S M _ h; cases h
  | succ n ih =>
    intro hyp pc L S M h0 h
    have ih := ih (fun k hk => hyp k (by omega))
    rw [z_run] at h
    cases hc : z_cd y pc with
    | none => rw [hc] at h; cases h
    | some q =>
      obtain ⟨ins, len⟩ := q
      rw [hc] at h
      dsimp only at h
      obtain ⟨raw, hdg, hi, hR⟩ := z_chk hF.2.2.2.2.2.2.2.2.2 hc
      cases hs : z_st ins len pc L S M with
      | none => rw [hs] at h; cases h
      | some z =>
        rw [hs] at h
        rcases z with ⟨pc', L', S', M2⟩ | w | ⟨j, as, L', S'⟩
        · have hnx := z_run_nx _ _ _ _ _ _ _ _ h
          have hle : M.1 ≤ M2.1 := by
            rcases z_st_nx hs with q | q
            · omega
            · rw [q]; exact Nat.le_succ _
          have k := ih pc' L' S' M2 (by omega) h
          have a1 := z_sl_mono h0
          have a2 := z_sl_mono hle
          have a3 := z_sl_mono hnx
          have e1 : M.1 - M0.1 + (M2.1 - M.1) = M2.1 - M0.1 := by omega
          have e2 : z_sl M.1 - z_sl M0.1 + (z_sl M2.1 - z_sl M.1) = z_sl M2.1 - z_sl M0.1 := by omega
          refine z_step hF hdg hi hs ?_ ?_
          · rw [e1, e2]; omega
          · rw [e1, e2]; exact k
        · cases h
          exact hret pc len ins L S hc hs
        · dsimp only at h
          cases hr : z_run n j 0 (z_ent (z_ml j) as) [] M with
          | none => rw [hr] at h; cases h
          | some w =>
            obtain ⟨v1, M3⟩ := w
            rw [hr] at h
            dsimp only at h
            have hn1 := z_run_nx _ _ _ _ _ _ _ _ hr
            have hn2 := z_run_nx _ _ _ _ _ _ _ _ h
            have a1 := z_sl_mono h0
            have a2 := z_sl_mono hn1
            have a3 := z_sl_mono hn2
            have e1 : M.1 - M0.1 + (M3.1 - M.1) = M3.1 - M0.1 := by omega
            have e2 : z_sl M.1 - z_sl M0.1 + (z_sl M3.1 - z_sl M.1) = z_sl M3.1 - z_sl M0.1 := by omega
            have k := ih (pc + len) L' (v1.toList ++ S') M3 (by omega) h
            rw [← e1, ← e2] at k
            have hrm : M.1 - M0.1 + (M3.1 - M.1) ≤ R.cells ∧ z_sl M.1 - z_sl M0.1 + (z_sl M3.1 - z_sl M.1) ≤ R.slots := by rw [e1, e2]; omega
            cases ins with
            | invokestatic j2 =>
              obtain ⟨i1, i2, i3⟩ := z_args_inv hs
              obtain ⟨i4, i3⟩ := z_ivs_inv i3
              cases i3
              obtain ⟨oa1, o7⟩ := zi_and hi
              obtain ⟨oa2, o6⟩ := zi_and oa1
              obtain ⟨oa3, o5⟩ := zi_and oa2
              obtain ⟨oa4, o4⟩ := zi_and oa3
              obtain ⟨oa5, o2⟩ := zi_and oa4
              have o5 := zi_beq o5
              subst o5
              rw [zi_dec oa5] at hdg
              obtain ⟨u1, u2⟩ := zi_and hR
              exact z_callS hF hdg (zi_dec o2) ⟨zi_ble u1, zi_ble u2⟩ (zi_beq o4) i1 i2 (hyp n (by omega) j _ M M3 v1 (zi_blt o6) (zi_blt o7) i4 hr) hrm k
            | invokevirtual j2 =>
              obtain ⟨i1, i2, i3⟩ := z_args_inv hs
              obtain ⟨a, as1, hcons, i4, i5, i3⟩ := z_ivr_inv i3
              · cases i3
                rw [hcons] at hr i4
                have hsp := z_split i1
                rw [hcons, List.reverse_cons, List.append_assoc] at hsp
                have hlen : as1.length + 1 = z_na j := by
                  have := congrArg List.length hcons
                  simp at this
                  omega
                obtain ⟨oa1, o7⟩ := zi_and hi
                obtain ⟨oa2, o6⟩ := zi_and oa1
                obtain ⟨oa3, o5⟩ := zi_and oa2
                obtain ⟨oa4, o4⟩ := zi_and oa3
                obtain ⟨oa5, o3⟩ := zi_and oa4
                obtain ⟨oa6, o2⟩ := zi_and oa5
                have o5 := zi_beq o5
                subst o5
                rw [zi_dec oa6] at hdg
                obtain ⟨u1, u2⟩ := zi_and hR
                rw [hsp]
                exact z_callV hF hdg (zi_dec o2) ⟨zi_ble u1, zi_ble u2⟩ (by intro q; rw [q] at o3; cases o3) (zi_not o4) hlen i2 i5 (hyp n (by omega) j _ M M3 v1 (zi_blt o6) (zi_blt o7) i4 hr) hrm k
            | invokespecial j2 =>
              obtain ⟨i1, i2, i3⟩ := z_args_inv hs
              obtain ⟨a, as1, hcons, i4, i5, i3⟩ := z_ivr_inv i3
              · cases i3
                rw [hcons] at hr i4
                have hsp := z_split i1
                rw [hcons, List.reverse_cons, List.append_assoc] at hsp
                have hlen : as1.length + 1 = z_na j := by
                  have := congrArg List.length hcons
                  simp at this
                  omega
                obtain ⟨oa1, o7⟩ := zi_and hi
                obtain ⟨oa2, o6⟩ := zi_and oa1
                obtain ⟨oa3, o5⟩ := zi_and oa2
                obtain ⟨oa4, o4⟩ := zi_and oa3
                obtain ⟨oa5, o2⟩ := zi_and oa4
                have o5 := zi_beq o5
                subst o5
                rw [zi_dec oa5] at hdg
                obtain ⟨u1, u2⟩ := zi_and hR
                rw [hsp]
                exact z_callI hF hdg (zi_dec o2) ⟨zi_ble u1, zi_ble u2⟩ o4 hlen i2 i5 (hyp n (by omega) j _ M M3 v1 (zi_blt o6) (zi_blt o7) i4 hr) hrm k
            | _ => exact absurd hs (z_nocall (fun _ q => by cases q) (fun _ q => by cases q) (fun _ q => by cases q))
theorem z_met (n : Nat) (hyp : ∀ k, k < n → z_Hyp l D AC xa sv bs g k) : z_Hyp l D AC xa sv bs g n := by
  intro j as M M1 v hj1 hj2 hwd hrun
  have pl := z_mpl_all j hj2
  unfold z_mpl at pl
  obtain ⟨pl, pl4⟩ := zi_and pl
  obtain ⟨pl, pl3⟩ := zi_and pl
  obtain ⟨pl1, pl2⟩ := zi_and pl
  have pl3 := zi_dec pl3
  obtain ⟨-, -, -, -, -, m7⟩ := z_mok_all j hj1 hj2
  unfold z_MetOf
  refine va_MetF (cc := z_by j) (maxL := z_ml j) (ret := z_re j) pl2 rfl ?_
  intro p e s m args below meth c s₁ B hml hv
  obtain ⟨rfl, hP, hX, hbs⟩ := hv
  have hF : z_Fr D AC xa sv bs g j p l e (headSpec (z_wsj j) (z_Rm j (M1.1 - M.1) (z_sl M1.1 - z_sl M.1))).room s m (as.map (z_tv xa sv bs)).toArray below meth c :=
    ⟨B.exec, B.bytes, hml, by rw [pl3]; exact findClass_of_methodNamed B.named, hX, fun h => ((name_of_methodNamed B.named B.method).1).trans (m7 h).1, Nat.le_refl _, Nat.le_refl _, hbs, hj2⟩
  have hr := B.returns
  have hlocks := B.notSynchronized
  have key := z_loop (Q := MQ below (z_Qr D AC xa sv bs g v M1) (as.map (z_tv xa sv bs)).toArray s (M1.1 - M.1) (z_sl M1.1 - z_sl M.1) (z_A bs)) M M1 v hF ⟨Nat.le_refl _, Nat.le_refl _⟩ ?_ n hyp 0 (z_ent (z_ml j) as) [] M (Nat.le_refl _) hrun
  · rw [Nat.sub_self, Nat.sub_self] at key
    have hl := lv_entry (as.map (z_tv xa sv bs)) (n := z_ml j) (by rw [z_wd_sl]; exact hwd)
    rw [lg_entry_eq]
    refine key s.heap [] _ hP va_S.rf ⟨hl.1.trans (z_ent_len as _ hwd).symm, hl.2.1, fun i v h => ?_⟩ (hl.1.trans hml.symm)
    have := z_ent_get (xa := xa) (sv := sv) (bs := bs) as _ i 0 v h
    rw [Nat.zero_add] at this
    exact hl.2.2 _ this
  · intro pc len ins L S hc hs
    obtain ⟨raw, hdg, hi, hR⟩ := z_chk hj2 hc
    cases ins with
    | ret q =>
      obtain ⟨x, hS, hn, h⟩ := z_rti_inv hs
      · subst hS
        cases h
        obtain ⟨oa1, o4⟩ := zi_and hi
        obtain ⟨oa2, o3⟩ := zi_and oa1
        obtain ⟨oa3, o2⟩ := zi_and oa2
        have o2 := zi_beq o2
        have o3 := zi_beq o3
        have o4 := zi_blt o4
        subst o2
        rw [zi_dec oa3] at hdg
        intro H locs ls hP1 hS1 hL1 hn1
        rw [← o3] at pl4
        match q, o4 with
        | 0, _ => exact W.iret hF.1 hF.2.1 (by rw [hr]; exact zi_dec pl4) (fun t ht hW => ⟨rfl, by rw [ht]; exact hP1, hS1.F ht⟩) hS1.2.2 hdg hlocks
        | 1, _ => exact W.zret (ty := .boolean) hF.1 hF.2.1 (by rw [hr]; exact zi_dec pl4) (z_b01_nar hn).2.1 (fun t ht hW => ⟨rfl, by rw [ht]; exact hP1, hS1.F ht⟩) hS1.2.2 hdg hlocks
        | 2, _ => exact W.zret (ty := .char) hF.1 hF.2.1 (by rw [hr]; exact zi_dec pl4) (zi_dec hn) (fun t ht hW => ⟨rfl, by rw [ht]; exact hP1, hS1.F ht⟩) hS1.2.2 hdg hlocks
        | 3, _ => exact W.zret (ty := .byte) hF.1 hF.2.1 (by rw [hr]; exact zi_dec pl4) (zi_dec hn) (fun t ht hW => ⟨rfl, by rw [ht]; exact hP1, hS1.F ht⟩) hS1.2.2 hdg hlocks
    | lreturn =>
      obtain ⟨x, hS, h⟩ := z_rtl_inv hs
      · subst hS
        cases h
        obtain ⟨oa1, o3⟩ := zi_and hi
        obtain ⟨oa2, o2⟩ := zi_and oa1
        have o2 := zi_beq o2
        have o3 := zi_beq o3
        subst o2
        rw [zi_dec oa2] at hdg
        rw [o3] at pl4
        intro H locs ls hP1 hS1 hL1 hn1
        exact W.lret hF.1 hF.2.1 (by rw [hr]; exact zi_dec pl4) (fun t ht hW => ⟨rfl, by rw [ht]; exact hP1, hS1.F ht⟩) hS1.2.2 hdg hlocks
    | areturn =>
      obtain ⟨x, hS, h⟩ := z_rtr_inv hs
      · subst hS
        cases h
        obtain ⟨oa1, o3⟩ := zi_and hi
        obtain ⟨oa2, o2⟩ := zi_and oa1
        have o2 := zi_beq o2
        have o3 := zi_beq o3
        subst o2
        rw [zi_dec oa2] at hdg
        rw [o3] at pl4
        intro H locs ls hP1 hS1 hL1 hn1
        exact W.aret hF.1 hF.2.1 (by rw [hr]; exact zi_dec pl4) (Or.inl ⟨_, rfl⟩) (z_tv_ref x) (fun t ht hW => ⟨rfl, by rw [ht]; exact hP1, hS1.F ht⟩) hS1.2.2 hdg hlocks
    | return_ =>
      obtain ⟨hS, h⟩ := z_rtv_inv hs
      · subst hS
        cases h
        obtain ⟨oa1, o3⟩ := zi_and hi
        obtain ⟨oa2, o2⟩ := zi_and oa1
        have o2 := zi_beq o2
        have o3 := zi_beq o3
        subst o2
        rw [zi_dec oa2] at hdg
        rw [o3] at pl4
        intro H locs ls hP1 hS1 hL1 hn1
        exact W.vret hF.1 hF.2.1 (by rw [hr]; exact zi_dec pl4) (fun t ht hW => ⟨rfl, by rw [ht]; exact hP1, hS1.F ht⟩) hS1.2.2 hdg hlocks
    | _ => exact absurd hs (z_noret (fun _ q => by cases q) (fun q => by cases q) (fun q => by cases q) (fun q => by cases q))
theorem z_all : ∀ n, z_Hyp l D AC xa sv bs g n := fun n => Nat.strongRecOn n (fun n ih => z_met n ih)
end

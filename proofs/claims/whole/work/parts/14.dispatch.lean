theorem z_1i_inv {S : List Value} {k : Int32 → List Value → Option Zr} {z : Zr} (h : z_1i S k = some z) : ∃ x r, S = .int x :: r ∧ k x r = some z := by
  unfold z_1i at h
  split at h
  · exact ⟨_, _, rfl, h⟩
  · cases h
theorem z_2i_inv {S : List Value} {k : Int32 → Int32 → List Value → Option Zr} {z : Zr} (h : z_2i S k = some z) : ∃ x z1 r, S = .int z1 :: .int x :: r ∧ k x z1 r = some z := by
  unfold z_2i at h
  split at h
  · exact ⟨_, _, _, rfl, h⟩
  · cases h
theorem z_1l_inv {S : List Value} {k : Int64 → List Value → Option Zr} {z : Zr} (h : z_1l S k = some z) : ∃ x r, S = .long x :: r ∧ k x r = some z := by
  unfold z_1l at h
  split at h
  · exact ⟨_, _, rfl, h⟩
  · cases h
theorem z_2l_inv {S : List Value} {k : Int64 → Int64 → List Value → Option Zr} {z : Zr} (h : z_2l S k = some z) : ∃ x z1 r, S = .long z1 :: .long x :: r ∧ k x z1 r = some z := by
  unfold z_2l at h
  split at h
  · exact ⟨_, _, _, rfl, h⟩
  · cases h
theorem z_li_inv {S : List Value} {k : Int64 → Int32 → List Value → Option Zr} {z : Zr} (h : z_li S k = some z) : ∃ x z1 r, S = .int z1 :: .long x :: r ∧ k x z1 r = some z := by
  unfold z_li at h
  split at h
  · exact ⟨_, _, _, rfl, h⟩
  · cases h
theorem z_1r_inv {S : List Value} {k : Nat → List Value → Option Zr} {z : Zr} (h : z_1r S k = some z) : ∃ a r, S = .ref a :: r ∧ k a r = some z := by
  unfold z_1r at h
  split at h
  · exact ⟨_, _, rfl, h⟩
  · cases h
theorem z_ri_inv {S : List Value} {k : Nat → Int32 → List Value → Option Zr} {z : Zr} (h : z_ri S k = some z) : ∃ a x r, S = .int x :: .ref a :: r ∧ k a x r = some z := by
  unfold z_ri at h
  split at h
  · exact ⟨_, _, _, rfl, h⟩
  · cases h
theorem z_rl_inv {S : List Value} {k : Nat → Int64 → List Value → Option Zr} {z : Zr} (h : z_rl S k = some z) : ∃ a x r, S = .long x :: .ref a :: r ∧ k a x r = some z := by
  unfold z_rl at h
  split at h
  · exact ⟨_, _, _, rfl, h⟩
  · cases h
theorem z_rr_inv {S : List Value} {k : Nat → Nat → List Value → Option Zr} {z : Zr} (h : z_rr S k = some z) : ∃ a x r, S = .ref x :: .ref a :: r ∧ k a x r = some z := by
  unfold z_rr at h
  split at h
  · exact ⟨_, _, _, rfl, h⟩
  · cases h
theorem z_aii_inv {S : List Value} {k : Nat → Int32 → Int32 → List Value → Option Zr} {z : Zr} (h : z_aii S k = some z) : ∃ a i x r, S = .int x :: .int i :: .ref a :: r ∧ k a i x r = some z := by
  unfold z_aii at h
  split at h
  · exact ⟨_, _, _, _, rfl, h⟩
  · cases h
theorem z_ail_inv {S : List Value} {k : Nat → Int32 → Int64 → List Value → Option Zr} {z : Zr} (h : z_ail S k = some z) : ∃ a i x r, S = .long x :: .int i :: .ref a :: r ∧ k a i x r = some z := by
  unfold z_ail at h
  split at h
  · exact ⟨_, _, _, _, rfl, h⟩
  · cases h
theorem z_air_inv {S : List Value} {k : Nat → Int32 → Nat → List Value → Option Zr} {z : Zr} (h : z_air S k = some z) : ∃ a i x r, S = .ref x :: .int i :: .ref a :: r ∧ k a i x r = some z := by
  unfold z_air at h
  split at h
  · exact ⟨_, _, _, _, rfl, h⟩
  · cases h
theorem z_cpy_inv {S : List Value} {k : Nat → Int32 → Nat → Int32 → Int32 → List Value → Option Zr} {z : Zr} (h : z_cpy S k = some z) : ∃ a sp d dp n r, S = .int n :: .int dp :: .ref d :: .int sp :: .ref a :: r ∧ k a sp d dp n r = some z := by
  unfold z_cpy at h
  split at h
  · exact ⟨_, _, _, _, _, _, rfl, h⟩
  · cases h
theorem z_if_inv {b : Bool} {o : Option Zr} {z : Zr} (h : z_if b o = some z) : b = true ∧ o = some z := by
  cases b with
  | false => cases h
  | true => exact ⟨rfl, h⟩
theorem z_go_inv {pc pc' : Nat} {L L' : Lo} {S S' : List Value} {M M' : Mm} (h : z_go pc L S M = some (.inl (pc', L', S', M'))) : pc = pc' ∧ L = L' ∧ S = S' ∧ M = M' := by
  cases h
  exact ⟨rfl, rfl, rfl, rfl⟩
theorem z_or_inv {o : Option Nat} {k : Nat → Option Zr} {z : Zr} (h : z_or o k = some z) : ∃ a, o = some a ∧ k a = some z := by
  cases o with
  | none => cases h
  | some a => exact ⟨a, rfl, h⟩
theorem z_gi_inv {L : Lo} {i : Nat} {k : Int32 → Option Zr} {z : Zr} (h : z_gi L i k = some z) : ∃ x, z_lget L i = some (.int x) ∧ k x = some z := by
  unfold z_gi at h
  split at h
  · rename_i x hx; exact ⟨x, hx, h⟩
  · cases h
theorem z_gl_inv {L : Lo} {i : Nat} {k : Int64 → Option Zr} {z : Zr} (h : z_gl L i k = some z) : ∃ x, z_lget L i = some (.long x) ∧ k x = some z := by
  unfold z_gl at h
  split at h
  · rename_i x hx; exact ⟨x, hx, h⟩
  · cases h
theorem z_gr_inv {L : Lo} {i : Nat} {k : Nat → Option Zr} {z : Zr} (h : z_gr L i k = some z) : ∃ x, z_lget L i = some (.ref x) ∧ k x = some z := by
  unfold z_gr at h
  split at h
  · rename_i x hx; exact ⟨x, hx, h⟩
  · cases h
theorem z_args_inv {n : Nat} {S : List Value} {k : List Value → List Value → Option Zr} {z : Zr} (h : z_args n S k = some z) : n ≤ S.length ∧ (S.drop n).length ≤ 4 ∧ k (S.take n).reverse (S.drop n) = some z := by
  obtain ⟨h1, h2⟩ := z_if_inv h
  obtain ⟨h3, h4⟩ := zi_and h1
  exact ⟨zi_ble h3, zi_ble h4, h2⟩
theorem z_ivs_inv {j : Nat} {L : Lo} {as r : List Value} {z : Zr} (h : z_ivs j L as r = some z) : z_wd as ≤ z_ml j ∧ z = .inr (.inr (j, as, L, r)) := by
  obtain ⟨h1, h2⟩ := z_if_inv h
  cases h2
  exact ⟨zi_ble h1, rfl⟩
theorem z_ivr_inv {j : Nat} {L : Lo} {nx : Nat} {as r : List Value} {z : Zr} (h : z_ivr j L nx as r = some z) : ∃ a as1, as = .ref a :: as1 ∧ z_wd as ≤ z_ml j ∧ z_ok nx a (z_rk j) = true ∧ z = .inr (.inr (j, as, L, r)) := by
  unfold z_ivr at h
  split at h
  · obtain ⟨h1, h2⟩ := z_if_inv h
    obtain ⟨h3, h4⟩ := zi_and h1
    cases h2
    exact ⟨_, _, rfl, zi_ble h3, h4, rfl⟩
  · cases h
theorem z_rti_inv {k : Nat} {S : List Value} {z : Zr} (h : z_rti k S = some z) : ∃ x, S = [.int x] ∧ z_nar k x = true ∧ z = .inr (.inl (some (.int x))) := by
  unfold z_rti at h
  split at h
  · obtain ⟨h1, h2⟩ := z_if_inv h
    cases h2
    exact ⟨_, rfl, h1, rfl⟩
  · cases h
theorem z_rtl_inv {S : List Value} {z : Zr} (h : z_rtl S = some z) : ∃ x, S = [.long x] ∧ z = .inr (.inl (some (.long x))) := by
  unfold z_rtl at h
  split at h
  · cases h; exact ⟨_, rfl, rfl⟩
  · cases h
theorem z_rtr_inv {S : List Value} {z : Zr} (h : z_rtr S = some z) : ∃ x, S = [.ref x] ∧ z = .inr (.inl (some (.ref x))) := by
  unfold z_rtr at h
  split at h
  · cases h; exact ⟨_, rfl, rfl⟩
  · cases h
theorem z_rtv_inv {S : List Value} {z : Zr} (h : z_rtv S = some z) : S = [] ∧ z = .inr (.inl none) := by
  unfold z_rtv at h
  split at h
  · cases h; exact ⟨rfl, rfl⟩
  · cases h
theorem z_args_go {n : Nat} {S : List Value} {k : List Value → List Value → Option Zr} {z : Zr} (h : z_args n S k = some z) : ∃ as r, k as r = some z := ⟨_, _, (z_args_inv h).2.2⟩
section
variable {D : va_G} {AC : Nat → ClassId} {xa : Nat → Nat} {sv : Option Nat} {bs : Nat} {g : Nat → Int32} {y : Nat} {p : Program} {l : Launch} {e : Env} {R : Room} {s : State} {m : MethodId} {args : Array Value} {below : List Frame} {meth : Method} {c : Code} {Q : State → Prop}
variable {pc len cn sn pc' : Nat} {raw : Instr} {L L' : Lo} {S S' : List Value} {M M' : Mm}
theorem zk_same (h : M'.1 = M.1) (k : z_Kk D AC xa sv bs g p l e R s m args below meth c Q (cn + (M'.1 - M.1)) (sn + (z_sl M'.1 - z_sl M.1)) pc' L' S' M') : z_Kk D AC xa sv bs g p l e R s m args below meth c Q cn sn pc' L' S' M' := by
  rw [h, Nat.sub_self, Nat.sub_self, Nat.add_zero, Nat.add_zero] at k
  exact k
theorem zk_mk (k : z_Kk D AC xa sv bs g p l e R s m args below meth c Q (cn + ((z_mk M).1 - M.1)) (sn + (z_sl (z_mk M).1 - z_sl M.1)) pc' L' S' (z_mk M)) : z_Kk D AC xa sv bs g p l e R s m args below meth c Q (cn + 1) (sn + z_sz M.1) pc' L' S' (z_mk M) := by
  have e1 : (z_mk M).1 - M.1 = 1 := by show M.1 + 1 - M.1 = 1; omega
  have e2 : z_sl (z_mk M).1 - z_sl M.1 = z_sz M.1 := by show z_sl (M.1 + 1) - z_sl M.1 = _; rw [z_sl_succ]; omega
  rw [e1, e2] at k
  exact k
theorem zr_mk (h : cn + ((z_mk M).1 - M.1) ≤ R.cells ∧ sn + (z_sl (z_mk M).1 - z_sl M.1) ≤ R.slots) : cn + 1 ≤ R.cells ∧ sn + z_sz M.1 ≤ R.slots := by
  have e1 : (z_mk M).1 - M.1 = 1 := by show M.1 + 1 - M.1 = 1; omega
  have e2 : z_sl (z_mk M).1 - z_sl M.1 = z_sz M.1 := by show z_sl (M.1 + 1) - z_sl M.1 = _; rw [z_sl_succ]; omega
  rw [e1, e2] at h
  exact h
theorem z_not3 {a b d : Bool} (h : (a && b && d) = true) : a = true ∧ b = true ∧ d = true := ⟨(zi_and (zi_and h).1).1, (zi_and (zi_and h).1).2, (zi_and h).2⟩
theorem z_link3 {raw mi : Instr} {P : Prop} [Decidable P] {len : Nat} (h : (decide (raw = mi) && decide P && Nat.beq len 3) = true) : raw = mi ∧ P ∧ len = 3 := by
  obtain ⟨h1, h2, h3⟩ := z_not3 h
  exact ⟨zi_dec h1, zi_dec h2, zi_beq h3⟩
theorem z_step (hF : z_Fr D AC xa sv bs g y p l e R s m args below meth c) {ins : Instr} (hdg : decode (z_by y) pc = .ok (raw, len)) (hi : okI (z_owL.getD y 0) (z_rtL.getD y 0) (z_inL.getD y false) pc raw len ins = true) (hs : z_st ins len pc L S M = some (.inl (pc', L', S', M'))) (hrm : cn + (M'.1 - M.1) ≤ R.cells ∧ sn + (z_sl M'.1 - z_sl M.1) ≤ R.slots)
    (k : z_Kk D AC xa sv bs g p l e R s m args below meth c Q (cn + (M'.1 - M.1)) (sn + (z_sl M'.1 - z_sl M.1)) pc' L' S' M') : z_Kk D AC xa sv bs g p l e R s m args below meth c Q cn sn pc L S M := by
  cases ins with
  | iadd =>
    obtain ⟨x, z1, r, rfl, h⟩ := z_2i_inv hs
    obtain ⟨rfl, rfl, rfl, rfl⟩ := z_go_inv h
    exact zs_iadd hF hdg hi (zk_same rfl k)
  | isub =>
    obtain ⟨x, z1, r, rfl, h⟩ := z_2i_inv hs
    obtain ⟨rfl, rfl, rfl, rfl⟩ := z_go_inv h
    exact zs_isub hF hdg hi (zk_same rfl k)
  | imul =>
    obtain ⟨x, z1, r, rfl, h⟩ := z_2i_inv hs
    obtain ⟨rfl, rfl, rfl, rfl⟩ := z_go_inv h
    exact zs_imul hF hdg hi (zk_same rfl k)
  | iand =>
    obtain ⟨x, z1, r, rfl, h⟩ := z_2i_inv hs
    obtain ⟨rfl, rfl, rfl, rfl⟩ := z_go_inv h
    exact zs_iand hF hdg hi (zk_same rfl k)
  | ior =>
    obtain ⟨x, z1, r, rfl, h⟩ := z_2i_inv hs
    obtain ⟨rfl, rfl, rfl, rfl⟩ := z_go_inv h
    exact zs_ior hF hdg hi (zk_same rfl k)
  | ixor =>
    obtain ⟨x, z1, r, rfl, h⟩ := z_2i_inv hs
    obtain ⟨rfl, rfl, rfl, rfl⟩ := z_go_inv h
    exact zs_ixor hF hdg hi (zk_same rfl k)
  | ishl =>
    obtain ⟨x, z1, r, rfl, h⟩ := z_2i_inv hs
    obtain ⟨rfl, rfl, rfl, rfl⟩ := z_go_inv h
    exact zs_ishl hF hdg hi (zk_same rfl k)
  | ishr =>
    obtain ⟨x, z1, r, rfl, h⟩ := z_2i_inv hs
    obtain ⟨rfl, rfl, rfl, rfl⟩ := z_go_inv h
    exact zs_ishr hF hdg hi (zk_same rfl k)
  | iushr =>
    obtain ⟨x, z1, r, rfl, h⟩ := z_2i_inv hs
    obtain ⟨rfl, rfl, rfl, rfl⟩ := z_go_inv h
    exact zs_iushr hF hdg hi (zk_same rfl k)
  | idiv =>
    obtain ⟨x, z1, r, rfl, h⟩ := z_2i_inv hs
    obtain ⟨hc1, h⟩ := z_if_inv h
    obtain ⟨rfl, rfl, rfl, rfl⟩ := z_go_inv h
    exact zs_idiv hF hdg hi (of_decide_eq_false (zi_not hc1)) (zk_same rfl k)
  | irem =>
    obtain ⟨x, z1, r, rfl, h⟩ := z_2i_inv hs
    obtain ⟨hc1, h⟩ := z_if_inv h
    obtain ⟨rfl, rfl, rfl, rfl⟩ := z_go_inv h
    exact zs_irem hF hdg hi (of_decide_eq_false (zi_not hc1)) (zk_same rfl k)
  | ladd =>
    obtain ⟨x, z1, r, rfl, h⟩ := z_2l_inv hs
    obtain ⟨rfl, rfl, rfl, rfl⟩ := z_go_inv h
    exact zs_ladd hF hdg hi (zk_same rfl k)
  | lsub =>
    obtain ⟨x, z1, r, rfl, h⟩ := z_2l_inv hs
    obtain ⟨rfl, rfl, rfl, rfl⟩ := z_go_inv h
    exact zs_lsub hF hdg hi (zk_same rfl k)
  | lmul =>
    obtain ⟨x, z1, r, rfl, h⟩ := z_2l_inv hs
    obtain ⟨rfl, rfl, rfl, rfl⟩ := z_go_inv h
    exact zs_lmul hF hdg hi (zk_same rfl k)
  | land =>
    obtain ⟨x, z1, r, rfl, h⟩ := z_2l_inv hs
    obtain ⟨rfl, rfl, rfl, rfl⟩ := z_go_inv h
    exact zs_land hF hdg hi (zk_same rfl k)
  | lor =>
    obtain ⟨x, z1, r, rfl, h⟩ := z_2l_inv hs
    obtain ⟨rfl, rfl, rfl, rfl⟩ := z_go_inv h
    exact zs_lor hF hdg hi (zk_same rfl k)
  | lcmp =>
    obtain ⟨x, z1, r, rfl, h⟩ := z_2l_inv hs
    obtain ⟨rfl, rfl, rfl, rfl⟩ := z_go_inv h
    exact zs_lcmp hF hdg hi (zk_same rfl k)
  | ldiv =>
    obtain ⟨x, z1, r, rfl, h⟩ := z_2l_inv hs
    obtain ⟨hc1, h⟩ := z_if_inv h
    obtain ⟨rfl, rfl, rfl, rfl⟩ := z_go_inv h
    exact zs_ldiv hF hdg hi (of_decide_eq_false (zi_not hc1)) (zk_same rfl k)
  | lrem =>
    obtain ⟨x, z1, r, rfl, h⟩ := z_2l_inv hs
    obtain ⟨hc1, h⟩ := z_if_inv h
    obtain ⟨rfl, rfl, rfl, rfl⟩ := z_go_inv h
    exact zs_lrem hF hdg hi (of_decide_eq_false (zi_not hc1)) (zk_same rfl k)
  | lshl =>
    obtain ⟨x, z1, r, rfl, h⟩ := z_li_inv hs
    obtain ⟨rfl, rfl, rfl, rfl⟩ := z_go_inv h
    exact zs_lshl hF hdg hi (zk_same rfl k)
  | lshr =>
    obtain ⟨x, z1, r, rfl, h⟩ := z_li_inv hs
    obtain ⟨rfl, rfl, rfl, rfl⟩ := z_go_inv h
    exact zs_lshr hF hdg hi (zk_same rfl k)
  | i2l =>
    obtain ⟨x, r, rfl, h⟩ := z_1i_inv hs
    obtain ⟨rfl, rfl, rfl, rfl⟩ := z_go_inv h
    exact zs_i2l hF hdg hi (zk_same rfl k)
  | l2i =>
    obtain ⟨x, r, rfl, h⟩ := z_1l_inv hs
    obtain ⟨rfl, rfl, rfl, rfl⟩ := z_go_inv h
    exact zs_l2i hF hdg hi (zk_same rfl k)
  | i2c =>
    obtain ⟨x, r, rfl, h⟩ := z_1i_inv hs
    obtain ⟨rfl, rfl, rfl, rfl⟩ := z_go_inv h
    exact zs_i2c hF hdg hi (zk_same rfl k)
  | iconst z =>
    obtain ⟨rfl, rfl, rfl, rfl⟩ := z_go_inv hs
    exact zs_iconst hF hdg hi rfl (zk_same rfl k)
  | ldc2_w q =>
    obtain ⟨rfl, rfl, rfl, rfl⟩ := z_go_inv hs
    exact zs_ldc2 hF hdg hi rfl (zk_same rfl k)
  | ldc q =>
    obtain ⟨rfl, rfl, rfl, rfl⟩ := z_go_inv hs
    exact zs_ldc hF hdg hi rfl (zk_same rfl k)
  | iload i =>
    obtain ⟨x, hx, h⟩ := z_gi_inv hs
    obtain ⟨rfl, rfl, rfl, rfl⟩ := z_go_inv h
    exact zs_iload hF hdg hi hx (zk_same rfl k)
  | lload i =>
    obtain ⟨x, hx, h⟩ := z_gl_inv hs
    obtain ⟨rfl, rfl, rfl, rfl⟩ := z_go_inv h
    exact zs_lload hF hdg hi hx (zk_same rfl k)
  | aload i =>
    obtain ⟨x, hx, h⟩ := z_gr_inv hs
    obtain ⟨rfl, rfl, rfl, rfl⟩ := z_go_inv h
    exact zs_aload hF hdg hi hx (zk_same rfl k)
  | istore i =>
    obtain ⟨x, r, rfl, h⟩ := z_1i_inv hs
    obtain ⟨hc1, h⟩ := z_if_inv h
    obtain ⟨rfl, rfl, rfl, rfl⟩ := z_go_inv h
    exact zs_istore hF hdg hi (zi_blt hc1) (zk_same rfl k)
  | lstore i =>
    obtain ⟨x, r, rfl, h⟩ := z_1l_inv hs
    obtain ⟨hc1, h⟩ := z_if_inv h
    obtain ⟨rfl, rfl, rfl, rfl⟩ := z_go_inv h
    exact zs_lstore hF hdg hi (zi_blt hc1) (zk_same rfl k)
  | astore i =>
    obtain ⟨x, r, rfl, h⟩ := z_1r_inv hs
    obtain ⟨hc1, h⟩ := z_if_inv h
    obtain ⟨rfl, rfl, rfl, rfl⟩ := z_go_inv h
    exact zs_astore hF hdg hi (zi_blt hc1) (zk_same rfl k)
  | iinc i z =>
    obtain ⟨x, hx, h⟩ := z_gi_inv hs
    obtain ⟨hc1, h⟩ := z_if_inv h
    obtain ⟨rfl, rfl, rfl, rfl⟩ := z_go_inv h
    exact zs_iinc hF hdg hi hx (zi_blt hc1) (zk_same rfl k)
  | goto t =>
    obtain ⟨rfl, rfl, rfl, rfl⟩ := z_go_inv hs
    exact zs_goto hF hdg hi (zk_same rfl k)
  | ifCond cc t =>
    obtain ⟨x, r, rfl, h⟩ := z_1i_inv hs
    obtain ⟨rfl, rfl, rfl, rfl⟩ := z_go_inv h
    exact zs_ifc hF hdg hi (zk_same rfl k)
  | if_icmp cc t =>
    obtain ⟨x, z1, r, rfl, h⟩ := z_2i_inv hs
    obtain ⟨rfl, rfl, rfl, rfl⟩ := z_go_inv h
    exact zs_icmp hF hdg hi (zk_same rfl k)
  | tableswitch d lo hi2 os =>
    obtain ⟨x, r, rfl, h⟩ := z_1i_inv hs
    obtain ⟨t, ht, h⟩ := z_or_inv h
    obtain ⟨rfl, rfl, rfl, rfl⟩ := z_go_inv h
    exact zs_tsw hF hdg hi ht (zk_same rfl k)
  | lookupswitch d ps =>
    obtain ⟨x, r, rfl, h⟩ := z_1i_inv hs
    obtain ⟨rfl, rfl, rfl, rfl⟩ := z_go_inv h
    exact zs_lsw hF hdg hi (zk_same rfl k)
  | fadd =>
    obtain ⟨x, z1, r, rfl, h⟩ := z_2i_inv hs
    obtain ⟨hc1, h⟩ := z_if_inv h
    obtain ⟨rfl, rfl, rfl, rfl⟩ := z_go_inv h
    obtain ⟨h1, h2, h3⟩ := z_link3 hi
    subst h3
    rw [h1] at hdg
    exact zs_max hF hdg h2 (zi_ble hc1) (by rw [Nat.sub_self, Nat.sub_self] at hrm; exact hrm) (zk_same rfl k)
  | fsub =>
    obtain ⟨x, z1, r, rfl, h⟩ := z_2i_inv hs
    obtain ⟨hc1, h⟩ := z_if_inv h
    obtain ⟨rfl, rfl, rfl, rfl⟩ := z_go_inv h
    obtain ⟨h1, h2, h3⟩ := z_link3 hi
    subst h3
    rw [h1] at hdg
    exact zs_min hF hdg h2 (zi_ble hc1) (by rw [Nat.sub_self, Nat.sub_self] at hrm; exact hrm) (zk_same rfl k)
  | arraylength =>
    obtain ⟨a, r, rfl, h⟩ := z_1r_inv hs
    obtain ⟨hc1, h⟩ := z_if_inv h
    obtain ⟨rfl, rfl, rfl, rfl⟩ := z_go_inv h
    obtain ⟨rfl, rfl⟩ := zi_plain hi
    obtain ⟨g1, g2⟩ := zi_and hc1
    obtain ⟨g2, g4⟩ := zi_and g2
    obtain ⟨g2, g3⟩ := zi_and g2
    exact zs_alen hF hdg (zi_blt g1) (zi_ble g2) (zi_ble g3) (by intro q; rw [q] at g4; cases g4) (zk_same rfl k)
  | iaload =>
    obtain ⟨a, i, r, rfl, h⟩ := z_ri_inv hs
    obtain ⟨hc1, h⟩ := z_if_inv h
    obtain ⟨rfl, rfl, rfl, rfl⟩ := z_go_inv h
    obtain ⟨rfl, rfl⟩ := zi_plain hi
    obtain ⟨g1, g2⟩ := zi_and hc1
    exact zs_iald hF hdg g1 g2 (zk_same rfl k)
  | baload =>
    obtain ⟨a, i, r, rfl, h⟩ := z_ri_inv hs
    obtain ⟨hc1, h⟩ := z_if_inv h
    obtain ⟨rfl, rfl, rfl, rfl⟩ := z_go_inv h
    obtain ⟨rfl, rfl⟩ := zi_plain hi
    obtain ⟨g1, g2⟩ := zi_and hc1
    exact zs_bald hF hdg g1 g2 (zk_same rfl k)
  | laload =>
    obtain ⟨a, i, r, rfl, h⟩ := z_ri_inv hs
    obtain ⟨hc1, h⟩ := z_if_inv h
    obtain ⟨rfl, rfl, rfl, rfl⟩ := z_go_inv h
    obtain ⟨rfl, rfl⟩ := zi_plain hi
    obtain ⟨g1, g2⟩ := zi_and hc1
    exact zs_lald hF hdg g1 g2 (zk_same rfl k)
  | aaload =>
    obtain ⟨a, i, r, rfl, h⟩ := z_ri_inv hs
    obtain ⟨hc1, h⟩ := z_if_inv h
    obtain ⟨b, hb, h⟩ := z_or_inv h
    obtain ⟨rfl, rfl, rfl, rfl⟩ := z_go_inv h
    obtain ⟨rfl, rfl⟩ := zi_plain hi
    obtain ⟨g1, g2⟩ := zi_and hc1
    exact zs_aald hF hdg g1 g2 hb (zk_same rfl k)
  | iastore =>
    obtain ⟨a, i, x, r, rfl, h⟩ := z_aii_inv hs
    obtain ⟨hc1, h⟩ := z_if_inv h
    obtain ⟨rfl, rfl, rfl, rfl⟩ := z_go_inv h
    obtain ⟨rfl, rfl⟩ := zi_plain hi
    obtain ⟨g1, g2⟩ := zi_and hc1
    exact zs_iast hF hdg g1 g2 (zk_same rfl k)
  | bastore =>
    obtain ⟨a, i, x, r, rfl, h⟩ := z_aii_inv hs
    obtain ⟨hc1, h⟩ := z_if_inv h
    obtain ⟨rfl, rfl, rfl, rfl⟩ := z_go_inv h
    obtain ⟨rfl, rfl⟩ := zi_plain hi
    obtain ⟨g1, g2, g3⟩ := z_not3 hc1
    exact zs_bast hF hdg g1 g2 g3 (zk_same rfl k)
  | lastore =>
    obtain ⟨a, i, x, r, rfl, h⟩ := z_ail_inv hs
    obtain ⟨hc1, h⟩ := z_if_inv h
    obtain ⟨rfl, rfl, rfl, rfl⟩ := z_go_inv h
    obtain ⟨rfl, rfl⟩ := zi_plain hi
    obtain ⟨g1, g2⟩ := zi_and hc1
    exact zs_last hF hdg g1 g2 (zk_same rfl k)
  | aastore =>
    obtain ⟨a, i, x, r, rfl, h⟩ := z_air_inv hs
    obtain ⟨hc1, h⟩ := z_if_inv h
    obtain ⟨rfl, rfl, rfl, rfl⟩ := z_go_inv h
    obtain ⟨rfl, rfl⟩ := zi_plain hi
    obtain ⟨g1, g2⟩ := zi_and hc1
    rcases zi_or g1 with g1 | g1
    · obtain ⟨g1, g3⟩ := zi_and g1
      exact zs_aast4 hF hdg g1 g3 g2 (zk_same rfl k)
    · obtain ⟨g1, g3⟩ := zi_and g1
      exact zs_aast5 hF hdg g1 g3 g2 (zk_same rfl k)
  | getfield F =>
    obtain ⟨a, r, rfl, h⟩ := z_1r_inv hs
    obtain ⟨hc1, h⟩ := z_if_inv h
    obtain ⟨rfl, rfl, rfl, rfl⟩ := z_go_inv h
    obtain ⟨h1, h2, h3⟩ := z_link3 hi
    subst h3
    rw [h1] at hdg
    obtain ⟨g1, g2⟩ := zi_and hc1
    have g2 := zi_beq g2
    have k := zk_same rfl k
    refine zs_get hF hdg h2 g1 (fun H locs ls q1 q2 q3 q4 => ?_)
    have kk := k H locs ls q1 q2 q3 q4
    unfold z_fv
    rw [g2]
    exact kk
  | dload F =>
    obtain ⟨a, r, rfl, h⟩ := z_1r_inv hs
    obtain ⟨hc1, h⟩ := z_if_inv h
    obtain ⟨rfl, rfl, rfl, rfl⟩ := z_go_inv h
    obtain ⟨h1, h2, h3⟩ := z_link3 hi
    subst h3
    rw [h1] at hdg
    obtain ⟨g1, g2⟩ := zi_and hc1
    have g2 := zi_beq g2
    have k := zk_same rfl k
    refine zs_get hF hdg h2 g1 (fun H locs ls q1 q2 q3 q4 => ?_)
    have kk := k H locs ls q1 q2 q3 q4
    unfold z_fv
    rw [g2]
    exact kk
  | fload F =>
    obtain ⟨a, r, rfl, h⟩ := z_1r_inv hs
    obtain ⟨hc1, h⟩ := z_if_inv h
    obtain ⟨b, hb, h⟩ := z_or_inv h
    obtain ⟨rfl, rfl, rfl, rfl⟩ := z_go_inv h
    obtain ⟨h1, h2, h3⟩ := z_link3 hi
    subst h3
    rw [h1] at hdg
    obtain ⟨g1, g2⟩ := zi_and hc1
    have g2 := zi_beq g2
    have k := zk_same rfl k
    refine zs_get hF hdg h2 g1 (fun H locs ls q1 q2 q3 q4 => ?_)
    have kk := k H locs ls q1 q2 q3 q4
    unfold z_fv
    rw [g2, hb]
    exact kk
  | putfield F =>
    obtain ⟨a, x, r, rfl, h⟩ := z_ri_inv hs
    obtain ⟨hc1, h⟩ := z_if_inv h
    obtain ⟨rfl, rfl, rfl, rfl⟩ := z_go_inv h
    obtain ⟨h1, h3⟩ := zi_and hi
    obtain ⟨h1, hfin⟩ := zi_and h1
    obtain ⟨h1, h2⟩ := zi_and h1
    have h1 := zi_dec h1
    have h2 := zi_dec h2
    have h3 := zi_beq h3
    have h105 := z_fT_lt _ h2
    subst h3
    rw [h1] at hdg
    have k := zk_same rfl k
    obtain ⟨g1, g2, g3⟩ := z_not3 hc1
    have g2 := zi_beq g2
    refine zs_put (M' := (M.1, u2 M.2.1 a F x, M.2.2)) hF hdg h2 hfin g1 ?_ rfl ?_ (fun G hG => ?_) (fun b hb => ⟨u2_ne hb, rfl, rfl⟩) k
    · by_cases hz : z_fzL.getD F 0 = 1
      · rw [z_ft_boo F h105 g2 hz]
        rw [hz] at g3
        exact ⟨(z_b01_nar g3).2.1, (z_b01_nar g3).2.2⟩
      · rw [z_ft_int F h105 g2 hz]
        exact ⟨rfl, rfl⟩
    · unfold z_fv
      rw [g2]
      show Value.int (u2 M.2.1 a F x a F) = _
      rw [u2_at, if_pos rfl]; rfl
    · unfold z_fv
      show (match z_ft G with | 0 => Value.int (u2 M.2.1 a F x a G) | 1 => _ | _ => _) = _
      rw [u2_at, if_neg hG] <;> rfl
  | dstore F =>
    obtain ⟨a, x, r, rfl, h⟩ := z_rl_inv hs
    obtain ⟨hc1, h⟩ := z_if_inv h
    obtain ⟨rfl, rfl, rfl, rfl⟩ := z_go_inv h
    obtain ⟨h1, h3⟩ := zi_and hi
    obtain ⟨h1, hfin⟩ := zi_and h1
    obtain ⟨h1, h2⟩ := zi_and h1
    have h1 := zi_dec h1
    have h2 := zi_dec h2
    have h3 := zi_beq h3
    have h105 := z_fT_lt _ h2
    subst h3
    rw [h1] at hdg
    have k := zk_same rfl k
    obtain ⟨g1, g2⟩ := zi_and hc1
    have g2 := zi_beq g2
    refine zs_put (M' := (M.1, M.2.1, u2 M.2.2.1 a F x, M.2.2.2)) hF hdg h2 hfin g1 ?_ rfl ?_ (fun G hG => ?_) (fun b hb => ⟨rfl, u2_ne hb, rfl⟩) k
    · rw [z_ft_lon F h105 g2]
      exact ⟨rfl, rfl⟩
    · unfold z_fv
      rw [g2]
      show Value.long (u2 M.2.2.1 a F x a F) = _
      rw [u2_at, if_pos rfl]; rfl
    · unfold z_fv
      show (match z_ft G with | 0 => _ | 1 => Value.long (u2 M.2.2.1 a F x a G) | _ => _) = _
      rw [u2_at, if_neg hG] <;> rfl
  | fstore F =>
    obtain ⟨a, x, r, rfl, h⟩ := z_rr_inv hs
    obtain ⟨hc1, h⟩ := z_if_inv h
    obtain ⟨rfl, rfl, rfl, rfl⟩ := z_go_inv h
    obtain ⟨h1, h3⟩ := zi_and hi
    obtain ⟨h1, hfin⟩ := zi_and h1
    obtain ⟨h1, h2⟩ := zi_and h1
    have h1 := zi_dec h1
    have h2 := zi_dec h2
    have h3 := zi_beq h3
    have h105 := z_fT_lt _ h2
    subst h3
    rw [h1] at hdg
    have k := zk_same rfl k
    obtain ⟨g1, g2⟩ := zi_and hc1
    have g2 := zi_beq g2
    refine zs_put (M' := (M.1, M.2.1, M.2.2.1, u2 M.2.2.2 a F (some x))) hF hdg h2 hfin g1 ?_ rfl ?_ (fun G hG => ?_) (fun b hb => ⟨rfl, rfl, u2_ne hb⟩) k
    · have := z_isR_nar (z_ft_ref F h105 (by omega) (by omega)) (z_ro xa sv bs (some x))
      exact ⟨this.1, this.2.1⟩
    · unfold z_fv
      rw [g2]
      show va_rf (z_ro xa sv bs (u2 M.2.2.2 a F (some x) a F)) = _
      rw [u2_at, if_pos rfl]; rfl
    · unfold z_fv
      show (match z_ft G with | 0 => _ | 1 => _ | _ => va_rf (z_ro xa sv bs (u2 M.2.2.2 a F (some x) a G))) = _
      rw [u2_at, if_neg hG] <;> rfl
  | checkcast q =>
    obtain ⟨a, r, rfl, h⟩ := z_1r_inv hs
    obtain ⟨hc1, h⟩ := z_if_inv h
    obtain ⟨rfl, rfl, rfl, rfl⟩ := z_go_inv h
    obtain ⟨h1, h2, h3⟩ := z_link3 hi
    subst h3
    rw [h1] at hdg
    exact zs_strv hF hdg h2 hc1 (zk_same rfl k)
  | instanceof q =>
    obtain ⟨a, r, rfl, h⟩ := z_1r_inv hs
    obtain ⟨hc1, h⟩ := z_if_inv h
    obtain ⟨rfl, rfl, rfl, rfl⟩ := z_go_inv h
    obtain ⟨h1, h2, h3⟩ := z_link3 hi
    subst h3
    rw [h1] at hdg
    exact zs_strc hF hdg h2 hc1 (zk_same rfl k)
  | athrow =>
    obtain ⟨a, r, rfl, h⟩ := z_1r_inv hs
    obtain ⟨hc1, h⟩ := z_if_inv h
    obtain ⟨rfl, rfl, rfl, rfl⟩ := z_go_inv h
    obtain ⟨h1, h2, h3⟩ := z_link3 hi
    subst h3
    rw [h1] at hdg
    obtain ⟨g1, g2⟩ := zi_and hc1
    exact zs_obj hF hdg h2 (zi_ble g2) (zi_ble g1) (zk_same rfl k)
  | monitorenter =>
    obtain ⟨a, sp, d, dp, n, r, rfl, h⟩ := z_cpy_inv hs
    obtain ⟨hc1, h⟩ := z_if_inv h
    obtain ⟨rfl, rfl, rfl, rfl⟩ := z_go_inv h
    obtain ⟨h1, h2, h3⟩ := z_link3 hi
    subst h3
    rw [h1] at hdg
    obtain ⟨g1, g151⟩ := zi_and hc1
    obtain ⟨g1, g4⟩ := zi_and g1
    obtain ⟨g1, g3⟩ := zi_and g1
    obtain ⟨g1, g2⟩ := zi_and g1
    obtain ⟨ga, gd⟩ := zi_and g1
    obtain ⟨n1, n2, n3⟩ := z_not3 g2
    obtain ⟨b1, b2⟩ := zi_and g3
    exact zs_cpy hF hdg h2 ga gd (of_decide_eq_false (zi_not n1)) (of_decide_eq_false (zi_not n2)) (of_decide_eq_false (zi_not n3)) (zi_ble b1) (zi_ble b2) (zi_ble g4) (zi_beq g151) (zk_same rfl k)
  | dup =>
    cases S with
    | nil => cases hs
    | cons v r =>
      obtain ⟨hc1, h⟩ := z_if_inv hs
      obtain ⟨rfl, rfl, rfl, rfl⟩ := z_go_inv h
      exact zs_dup hF hdg hi (zi_beq hc1) (zk_same rfl k)
  | dup2 =>
    rcases S with _ | ⟨v, _ | ⟨u, r⟩⟩
    · cases hs
    · cases hs
    · obtain ⟨hc1, h⟩ := z_if_inv hs
      obtain ⟨g1, g2⟩ := zi_and hc1
      obtain ⟨rfl, rfl, rfl, rfl⟩ := z_go_inv h
      exact zs_dup2 hF hdg hi (zi_beq g1) (zi_beq g2) (zk_same rfl k)
  | pop =>
    cases S with
    | nil => cases hs
    | cons v r =>
      obtain ⟨hc1, h⟩ := z_if_inv hs
      obtain ⟨rfl, rfl, rfl, rfl⟩ := z_go_inv h
      exact zs_pop hF hdg hi (zi_beq hc1) (zk_same rfl k)
  | new ci =>
    obtain ⟨hc1, h⟩ := z_if_inv hs
    obtain ⟨rfl, rfl, rfl, rfl⟩ := z_go_inv h
    obtain ⟨h1, h2, h3⟩ := z_link3 hi
    subst h3
    rw [h1] at hdg
    exact zs_new hF hdg h2 (zi_beq hc1) (zr_mk hrm) (zk_mk k)
  | newarray ty =>
    obtain ⟨x, r, rfl, h⟩ := z_1i_inv hs
    obtain ⟨hc1, h⟩ := z_if_inv h
    obtain ⟨rfl, rfl, rfl, rfl⟩ := z_go_inv h
    obtain ⟨rfl, rfl⟩ := zi_plain hi
    obtain ⟨g1, g4⟩ := zi_and hc1
    obtain ⟨g1, g3⟩ := zi_and g1
    obtain ⟨g1, g2⟩ := zi_and g1
    have g1 := zi_beq g1
    have g3 := of_decide_eq_false (zi_not g3)
    cases ty with
    | int => exact zs_newa_int hF hdg g1 g3 (zi_beq g4) (zr_mk hrm) (zk_mk k)
    | boolean => exact zs_newa_boolean hF hdg g1 g3 (zi_beq g4) (zr_mk hrm) (zk_mk k)
    | long => exact zs_newa_long hF hdg g1 g3 (zi_beq g4) (zr_mk hrm) (zk_mk k)
    | _ => cases g2
  | anewarray q =>
    obtain ⟨x, r, rfl, h⟩ := z_1i_inv hs
    obtain ⟨hc1, h⟩ := z_if_inv h
    obtain ⟨rfl, rfl, rfl, rfl⟩ := z_go_inv h
    obtain ⟨h1, h2, h3⟩ := z_link3 hi
    subst h3
    rw [h1] at hdg
    obtain ⟨g1, g4⟩ := zi_and hc1
    obtain ⟨g1, g3⟩ := zi_and g1
    obtain ⟨g1, g2⟩ := zi_and g1
    have g1 := zi_beq g1
    have g3 := of_decide_eq_false (zi_not g3)
    rcases (z_aT_ok _ h2).2 with q4 | q4
    · have q4 : q = 4 := q4
      subst q4
      exact zs_anew_4 hF hdg h2 g1 g3 (zi_beq g4) (zr_mk hrm) (zk_mk k)
    · have q4 : q = 5 := q4
      subst q4
      exact zs_anew_5 hF hdg h2 g1 g3 (zi_beq g4) (zr_mk hrm) (zk_mk k)
  | invokestatic j => exact absurd (z_ivs_inv (z_args_inv hs).2.2).2 (by intro q; cases q)
  | invokespecial j =>
    obtain ⟨a, as1, h1, h2, h3, h4⟩ := z_ivr_inv (z_args_inv hs).2.2
    exact absurd h4 (by intro q; cases q)
  | invokevirtual j =>
    obtain ⟨a, as1, h1, h2, h3, h4⟩ := z_ivr_inv (z_args_inv hs).2.2
    exact absurd h4 (by intro q; cases q)
  | ret q =>
    obtain ⟨x, h1, h2, h3⟩ := z_rti_inv hs
    exact absurd h3 (by intro q; cases q)
  | lreturn =>
    obtain ⟨x, h1, h3⟩ := z_rtl_inv hs
    exact absurd h3 (by intro q; cases q)
  | areturn =>
    obtain ⟨x, h1, h3⟩ := z_rtr_inv hs
    exact absurd h3 (by intro q; cases q)
  | return_ =>
    obtain ⟨h1, h3⟩ := z_rtv_inv hs
    exact absurd h3 (by intro q; cases q)
  | _ => exact absurd hs (by intro q; cases q)
theorem z_st_nx {ins : Instr} (hs : z_st ins len pc L S M = some (.inl (pc', L', S', M'))) : M'.1 = M.1 ∨ M' = z_mk M := by
  cases ins with
  | iadd =>
    obtain ⟨x, z1, r, rfl, h⟩ := z_2i_inv hs
    obtain ⟨rfl, rfl, rfl, rfl⟩ := z_go_inv h
    exact Or.inl rfl
  | isub =>
    obtain ⟨x, z1, r, rfl, h⟩ := z_2i_inv hs
    obtain ⟨rfl, rfl, rfl, rfl⟩ := z_go_inv h
    exact Or.inl rfl
  | imul =>
    obtain ⟨x, z1, r, rfl, h⟩ := z_2i_inv hs
    obtain ⟨rfl, rfl, rfl, rfl⟩ := z_go_inv h
    exact Or.inl rfl
  | iand =>
    obtain ⟨x, z1, r, rfl, h⟩ := z_2i_inv hs
    obtain ⟨rfl, rfl, rfl, rfl⟩ := z_go_inv h
    exact Or.inl rfl
  | ior =>
    obtain ⟨x, z1, r, rfl, h⟩ := z_2i_inv hs
    obtain ⟨rfl, rfl, rfl, rfl⟩ := z_go_inv h
    exact Or.inl rfl
  | ixor =>
    obtain ⟨x, z1, r, rfl, h⟩ := z_2i_inv hs
    obtain ⟨rfl, rfl, rfl, rfl⟩ := z_go_inv h
    exact Or.inl rfl
  | ishl =>
    obtain ⟨x, z1, r, rfl, h⟩ := z_2i_inv hs
    obtain ⟨rfl, rfl, rfl, rfl⟩ := z_go_inv h
    exact Or.inl rfl
  | ishr =>
    obtain ⟨x, z1, r, rfl, h⟩ := z_2i_inv hs
    obtain ⟨rfl, rfl, rfl, rfl⟩ := z_go_inv h
    exact Or.inl rfl
  | iushr =>
    obtain ⟨x, z1, r, rfl, h⟩ := z_2i_inv hs
    obtain ⟨rfl, rfl, rfl, rfl⟩ := z_go_inv h
    exact Or.inl rfl
  | idiv =>
    obtain ⟨x, z1, r, rfl, h⟩ := z_2i_inv hs
    obtain ⟨hc1, h⟩ := z_if_inv h
    obtain ⟨rfl, rfl, rfl, rfl⟩ := z_go_inv h
    exact Or.inl rfl
  | irem =>
    obtain ⟨x, z1, r, rfl, h⟩ := z_2i_inv hs
    obtain ⟨hc1, h⟩ := z_if_inv h
    obtain ⟨rfl, rfl, rfl, rfl⟩ := z_go_inv h
    exact Or.inl rfl
  | ladd =>
    obtain ⟨x, z1, r, rfl, h⟩ := z_2l_inv hs
    obtain ⟨rfl, rfl, rfl, rfl⟩ := z_go_inv h
    exact Or.inl rfl
  | lsub =>
    obtain ⟨x, z1, r, rfl, h⟩ := z_2l_inv hs
    obtain ⟨rfl, rfl, rfl, rfl⟩ := z_go_inv h
    exact Or.inl rfl
  | lmul =>
    obtain ⟨x, z1, r, rfl, h⟩ := z_2l_inv hs
    obtain ⟨rfl, rfl, rfl, rfl⟩ := z_go_inv h
    exact Or.inl rfl
  | land =>
    obtain ⟨x, z1, r, rfl, h⟩ := z_2l_inv hs
    obtain ⟨rfl, rfl, rfl, rfl⟩ := z_go_inv h
    exact Or.inl rfl
  | lor =>
    obtain ⟨x, z1, r, rfl, h⟩ := z_2l_inv hs
    obtain ⟨rfl, rfl, rfl, rfl⟩ := z_go_inv h
    exact Or.inl rfl
  | lcmp =>
    obtain ⟨x, z1, r, rfl, h⟩ := z_2l_inv hs
    obtain ⟨rfl, rfl, rfl, rfl⟩ := z_go_inv h
    exact Or.inl rfl
  | ldiv =>
    obtain ⟨x, z1, r, rfl, h⟩ := z_2l_inv hs
    obtain ⟨hc1, h⟩ := z_if_inv h
    obtain ⟨rfl, rfl, rfl, rfl⟩ := z_go_inv h
    exact Or.inl rfl
  | lrem =>
    obtain ⟨x, z1, r, rfl, h⟩ := z_2l_inv hs
    obtain ⟨hc1, h⟩ := z_if_inv h
    obtain ⟨rfl, rfl, rfl, rfl⟩ := z_go_inv h
    exact Or.inl rfl
  | lshl =>
    obtain ⟨x, z1, r, rfl, h⟩ := z_li_inv hs
    obtain ⟨rfl, rfl, rfl, rfl⟩ := z_go_inv h
    exact Or.inl rfl
  | lshr =>
    obtain ⟨x, z1, r, rfl, h⟩ := z_li_inv hs
    obtain ⟨rfl, rfl, rfl, rfl⟩ := z_go_inv h
    exact Or.inl rfl
  | i2l =>
    obtain ⟨x, r, rfl, h⟩ := z_1i_inv hs
    obtain ⟨rfl, rfl, rfl, rfl⟩ := z_go_inv h
    exact Or.inl rfl
  | l2i =>
    obtain ⟨x, r, rfl, h⟩ := z_1l_inv hs
    obtain ⟨rfl, rfl, rfl, rfl⟩ := z_go_inv h
    exact Or.inl rfl
  | i2c =>
    obtain ⟨x, r, rfl, h⟩ := z_1i_inv hs
    obtain ⟨rfl, rfl, rfl, rfl⟩ := z_go_inv h
    exact Or.inl rfl
  | iconst z =>
    obtain ⟨rfl, rfl, rfl, rfl⟩ := z_go_inv hs
    exact Or.inl rfl
  | ldc2_w q =>
    obtain ⟨rfl, rfl, rfl, rfl⟩ := z_go_inv hs
    exact Or.inl rfl
  | ldc q =>
    obtain ⟨rfl, rfl, rfl, rfl⟩ := z_go_inv hs
    exact Or.inl rfl
  | iload i =>
    obtain ⟨x, hx, h⟩ := z_gi_inv hs
    obtain ⟨rfl, rfl, rfl, rfl⟩ := z_go_inv h
    exact Or.inl rfl
  | lload i =>
    obtain ⟨x, hx, h⟩ := z_gl_inv hs
    obtain ⟨rfl, rfl, rfl, rfl⟩ := z_go_inv h
    exact Or.inl rfl
  | aload i =>
    obtain ⟨x, hx, h⟩ := z_gr_inv hs
    obtain ⟨rfl, rfl, rfl, rfl⟩ := z_go_inv h
    exact Or.inl rfl
  | istore i =>
    obtain ⟨x, r, rfl, h⟩ := z_1i_inv hs
    obtain ⟨hc1, h⟩ := z_if_inv h
    obtain ⟨rfl, rfl, rfl, rfl⟩ := z_go_inv h
    exact Or.inl rfl
  | lstore i =>
    obtain ⟨x, r, rfl, h⟩ := z_1l_inv hs
    obtain ⟨hc1, h⟩ := z_if_inv h
    obtain ⟨rfl, rfl, rfl, rfl⟩ := z_go_inv h
    exact Or.inl rfl
  | astore i =>
    obtain ⟨x, r, rfl, h⟩ := z_1r_inv hs
    obtain ⟨hc1, h⟩ := z_if_inv h
    obtain ⟨rfl, rfl, rfl, rfl⟩ := z_go_inv h
    exact Or.inl rfl
  | iinc i z =>
    obtain ⟨x, hx, h⟩ := z_gi_inv hs
    obtain ⟨hc1, h⟩ := z_if_inv h
    obtain ⟨rfl, rfl, rfl, rfl⟩ := z_go_inv h
    exact Or.inl rfl
  | goto t =>
    obtain ⟨rfl, rfl, rfl, rfl⟩ := z_go_inv hs
    exact Or.inl rfl
  | ifCond cc t =>
    obtain ⟨x, r, rfl, h⟩ := z_1i_inv hs
    obtain ⟨rfl, rfl, rfl, rfl⟩ := z_go_inv h
    exact Or.inl rfl
  | if_icmp cc t =>
    obtain ⟨x, z1, r, rfl, h⟩ := z_2i_inv hs
    obtain ⟨rfl, rfl, rfl, rfl⟩ := z_go_inv h
    exact Or.inl rfl
  | tableswitch d lo hi2 os =>
    obtain ⟨x, r, rfl, h⟩ := z_1i_inv hs
    obtain ⟨t, ht, h⟩ := z_or_inv h
    obtain ⟨rfl, rfl, rfl, rfl⟩ := z_go_inv h
    exact Or.inl rfl
  | lookupswitch d ps =>
    obtain ⟨x, r, rfl, h⟩ := z_1i_inv hs
    obtain ⟨rfl, rfl, rfl, rfl⟩ := z_go_inv h
    exact Or.inl rfl
  | fadd =>
    obtain ⟨x, z1, r, rfl, h⟩ := z_2i_inv hs
    obtain ⟨hc1, h⟩ := z_if_inv h
    obtain ⟨rfl, rfl, rfl, rfl⟩ := z_go_inv h
    exact Or.inl rfl
  | fsub =>
    obtain ⟨x, z1, r, rfl, h⟩ := z_2i_inv hs
    obtain ⟨hc1, h⟩ := z_if_inv h
    obtain ⟨rfl, rfl, rfl, rfl⟩ := z_go_inv h
    exact Or.inl rfl
  | arraylength =>
    obtain ⟨a, r, rfl, h⟩ := z_1r_inv hs
    obtain ⟨hc1, h⟩ := z_if_inv h
    obtain ⟨rfl, rfl, rfl, rfl⟩ := z_go_inv h
    exact Or.inl rfl
  | iaload =>
    obtain ⟨a, i, r, rfl, h⟩ := z_ri_inv hs
    obtain ⟨hc1, h⟩ := z_if_inv h
    obtain ⟨rfl, rfl, rfl, rfl⟩ := z_go_inv h
    exact Or.inl rfl
  | baload =>
    obtain ⟨a, i, r, rfl, h⟩ := z_ri_inv hs
    obtain ⟨hc1, h⟩ := z_if_inv h
    obtain ⟨rfl, rfl, rfl, rfl⟩ := z_go_inv h
    exact Or.inl rfl
  | laload =>
    obtain ⟨a, i, r, rfl, h⟩ := z_ri_inv hs
    obtain ⟨hc1, h⟩ := z_if_inv h
    obtain ⟨rfl, rfl, rfl, rfl⟩ := z_go_inv h
    exact Or.inl rfl
  | aaload =>
    obtain ⟨a, i, r, rfl, h⟩ := z_ri_inv hs
    obtain ⟨hc1, h⟩ := z_if_inv h
    obtain ⟨b, hb, h⟩ := z_or_inv h
    obtain ⟨rfl, rfl, rfl, rfl⟩ := z_go_inv h
    exact Or.inl rfl
  | iastore =>
    obtain ⟨a, i, x, r, rfl, h⟩ := z_aii_inv hs
    obtain ⟨hc1, h⟩ := z_if_inv h
    obtain ⟨rfl, rfl, rfl, rfl⟩ := z_go_inv h
    exact Or.inl rfl
  | bastore =>
    obtain ⟨a, i, x, r, rfl, h⟩ := z_aii_inv hs
    obtain ⟨hc1, h⟩ := z_if_inv h
    obtain ⟨rfl, rfl, rfl, rfl⟩ := z_go_inv h
    exact Or.inl rfl
  | lastore =>
    obtain ⟨a, i, x, r, rfl, h⟩ := z_ail_inv hs
    obtain ⟨hc1, h⟩ := z_if_inv h
    obtain ⟨rfl, rfl, rfl, rfl⟩ := z_go_inv h
    exact Or.inl rfl
  | aastore =>
    obtain ⟨a, i, x, r, rfl, h⟩ := z_air_inv hs
    obtain ⟨hc1, h⟩ := z_if_inv h
    obtain ⟨rfl, rfl, rfl, rfl⟩ := z_go_inv h
    exact Or.inl rfl
  | getfield F =>
    obtain ⟨a, r, rfl, h⟩ := z_1r_inv hs
    obtain ⟨hc1, h⟩ := z_if_inv h
    obtain ⟨rfl, rfl, rfl, rfl⟩ := z_go_inv h
    exact Or.inl rfl
  | dload F =>
    obtain ⟨a, r, rfl, h⟩ := z_1r_inv hs
    obtain ⟨hc1, h⟩ := z_if_inv h
    obtain ⟨rfl, rfl, rfl, rfl⟩ := z_go_inv h
    exact Or.inl rfl
  | fload F =>
    obtain ⟨a, r, rfl, h⟩ := z_1r_inv hs
    obtain ⟨hc1, h⟩ := z_if_inv h
    obtain ⟨b, hb, h⟩ := z_or_inv h
    obtain ⟨rfl, rfl, rfl, rfl⟩ := z_go_inv h
    exact Or.inl rfl
  | putfield F =>
    obtain ⟨a, x, r, rfl, h⟩ := z_ri_inv hs
    obtain ⟨hc1, h⟩ := z_if_inv h
    obtain ⟨rfl, rfl, rfl, rfl⟩ := z_go_inv h
    exact Or.inl rfl
  | dstore F =>
    obtain ⟨a, x, r, rfl, h⟩ := z_rl_inv hs
    obtain ⟨hc1, h⟩ := z_if_inv h
    obtain ⟨rfl, rfl, rfl, rfl⟩ := z_go_inv h
    exact Or.inl rfl
  | fstore F =>
    obtain ⟨a, x, r, rfl, h⟩ := z_rr_inv hs
    obtain ⟨hc1, h⟩ := z_if_inv h
    obtain ⟨rfl, rfl, rfl, rfl⟩ := z_go_inv h
    exact Or.inl rfl
  | checkcast q =>
    obtain ⟨a, r, rfl, h⟩ := z_1r_inv hs
    obtain ⟨hc1, h⟩ := z_if_inv h
    obtain ⟨rfl, rfl, rfl, rfl⟩ := z_go_inv h
    exact Or.inl rfl
  | instanceof q =>
    obtain ⟨a, r, rfl, h⟩ := z_1r_inv hs
    obtain ⟨hc1, h⟩ := z_if_inv h
    obtain ⟨rfl, rfl, rfl, rfl⟩ := z_go_inv h
    exact Or.inl rfl
  | athrow =>
    obtain ⟨a, r, rfl, h⟩ := z_1r_inv hs
    obtain ⟨hc1, h⟩ := z_if_inv h
    obtain ⟨rfl, rfl, rfl, rfl⟩ := z_go_inv h
    exact Or.inl rfl
  | monitorenter =>
    obtain ⟨a, sp, d, dp, n, r, rfl, h⟩ := z_cpy_inv hs
    obtain ⟨hc1, h⟩ := z_if_inv h
    obtain ⟨rfl, rfl, rfl, rfl⟩ := z_go_inv h
    exact Or.inl rfl
  | dup =>
    cases S with
    | nil => cases hs
    | cons v r =>
      obtain ⟨hc1, h⟩ := z_if_inv hs
      obtain ⟨rfl, rfl, rfl, rfl⟩ := z_go_inv h
      exact Or.inl rfl
  | dup2 =>
    rcases S with _ | ⟨v, _ | ⟨u, r⟩⟩
    · cases hs
    · cases hs
    · obtain ⟨hc1, h⟩ := z_if_inv hs
      obtain ⟨g1, g2⟩ := zi_and hc1
      obtain ⟨rfl, rfl, rfl, rfl⟩ := z_go_inv h
      exact Or.inl rfl
  | pop =>
    cases S with
    | nil => cases hs
    | cons v r =>
      obtain ⟨hc1, h⟩ := z_if_inv hs
      obtain ⟨rfl, rfl, rfl, rfl⟩ := z_go_inv h
      exact Or.inl rfl
  | new ci =>
    obtain ⟨hc1, h⟩ := z_if_inv hs
    obtain ⟨rfl, rfl, rfl, rfl⟩ := z_go_inv h
    exact Or.inr rfl
  | newarray ty =>
    obtain ⟨x, r, rfl, h⟩ := z_1i_inv hs
    obtain ⟨hc1, h⟩ := z_if_inv h
    obtain ⟨rfl, rfl, rfl, rfl⟩ := z_go_inv h
    exact Or.inr rfl
  | anewarray q =>
    obtain ⟨x, r, rfl, h⟩ := z_1i_inv hs
    obtain ⟨hc1, h⟩ := z_if_inv h
    obtain ⟨rfl, rfl, rfl, rfl⟩ := z_go_inv h
    exact Or.inr rfl
  | invokestatic j => exact absurd (z_ivs_inv (z_args_inv hs).2.2).2 (by intro q; cases q)
  | invokespecial j =>
    obtain ⟨a, as1, h1, h2, h3, h4⟩ := z_ivr_inv (z_args_inv hs).2.2
    exact absurd h4 (by intro q; cases q)
  | invokevirtual j =>
    obtain ⟨a, as1, h1, h2, h3, h4⟩ := z_ivr_inv (z_args_inv hs).2.2
    exact absurd h4 (by intro q; cases q)
  | ret q =>
    obtain ⟨x, h1, h2, h3⟩ := z_rti_inv hs
    exact absurd h3 (by intro q; cases q)
  | lreturn =>
    obtain ⟨x, h1, h3⟩ := z_rtl_inv hs
    exact absurd h3 (by intro q; cases q)
  | areturn =>
    obtain ⟨x, h1, h3⟩ := z_rtr_inv hs
    exact absurd h3 (by intro q; cases q)
  | return_ =>
    obtain ⟨h1, h3⟩ := z_rtv_inv hs
    exact absurd h3 (by intro q; cases q)
  | _ => exact absurd hs (by intro q; cases q)
theorem z_nocall {ins : Instr} {w : Nat × List Value × Lo × List Value} (h1 : ∀ j, ins ≠ .invokestatic j) (h2 : ∀ j, ins ≠ .invokespecial j) (h3 : ∀ j, ins ≠ .invokevirtual j) : z_st ins len pc L S M ≠ some (.inr (.inr w)) := by
  intro hs
  cases ins with
  | iadd =>
    obtain ⟨x, z1, r, rfl, h⟩ := z_2i_inv hs
    cases h
  | isub =>
    obtain ⟨x, z1, r, rfl, h⟩ := z_2i_inv hs
    cases h
  | imul =>
    obtain ⟨x, z1, r, rfl, h⟩ := z_2i_inv hs
    cases h
  | iand =>
    obtain ⟨x, z1, r, rfl, h⟩ := z_2i_inv hs
    cases h
  | ior =>
    obtain ⟨x, z1, r, rfl, h⟩ := z_2i_inv hs
    cases h
  | ixor =>
    obtain ⟨x, z1, r, rfl, h⟩ := z_2i_inv hs
    cases h
  | ishl =>
    obtain ⟨x, z1, r, rfl, h⟩ := z_2i_inv hs
    cases h
  | ishr =>
    obtain ⟨x, z1, r, rfl, h⟩ := z_2i_inv hs
    cases h
  | iushr =>
    obtain ⟨x, z1, r, rfl, h⟩ := z_2i_inv hs
    cases h
  | idiv =>
    obtain ⟨x, z1, r, rfl, h⟩ := z_2i_inv hs
    obtain ⟨hc1, h⟩ := z_if_inv h
    cases h
  | irem =>
    obtain ⟨x, z1, r, rfl, h⟩ := z_2i_inv hs
    obtain ⟨hc1, h⟩ := z_if_inv h
    cases h
  | ladd =>
    obtain ⟨x, z1, r, rfl, h⟩ := z_2l_inv hs
    cases h
  | lsub =>
    obtain ⟨x, z1, r, rfl, h⟩ := z_2l_inv hs
    cases h
  | lmul =>
    obtain ⟨x, z1, r, rfl, h⟩ := z_2l_inv hs
    cases h
  | land =>
    obtain ⟨x, z1, r, rfl, h⟩ := z_2l_inv hs
    cases h
  | lor =>
    obtain ⟨x, z1, r, rfl, h⟩ := z_2l_inv hs
    cases h
  | lcmp =>
    obtain ⟨x, z1, r, rfl, h⟩ := z_2l_inv hs
    cases h
  | ldiv =>
    obtain ⟨x, z1, r, rfl, h⟩ := z_2l_inv hs
    obtain ⟨hc1, h⟩ := z_if_inv h
    cases h
  | lrem =>
    obtain ⟨x, z1, r, rfl, h⟩ := z_2l_inv hs
    obtain ⟨hc1, h⟩ := z_if_inv h
    cases h
  | lshl =>
    obtain ⟨x, z1, r, rfl, h⟩ := z_li_inv hs
    cases h
  | lshr =>
    obtain ⟨x, z1, r, rfl, h⟩ := z_li_inv hs
    cases h
  | i2l =>
    obtain ⟨x, r, rfl, h⟩ := z_1i_inv hs
    cases h
  | l2i =>
    obtain ⟨x, r, rfl, h⟩ := z_1l_inv hs
    cases h
  | i2c =>
    obtain ⟨x, r, rfl, h⟩ := z_1i_inv hs
    cases h
  | iconst z =>
    cases hs
  | ldc2_w q =>
    cases hs
  | ldc q =>
    cases hs
  | iload i =>
    obtain ⟨x, hx, h⟩ := z_gi_inv hs
    cases h
  | lload i =>
    obtain ⟨x, hx, h⟩ := z_gl_inv hs
    cases h
  | aload i =>
    obtain ⟨x, hx, h⟩ := z_gr_inv hs
    cases h
  | istore i =>
    obtain ⟨x, r, rfl, h⟩ := z_1i_inv hs
    obtain ⟨hc1, h⟩ := z_if_inv h
    cases h
  | lstore i =>
    obtain ⟨x, r, rfl, h⟩ := z_1l_inv hs
    obtain ⟨hc1, h⟩ := z_if_inv h
    cases h
  | astore i =>
    obtain ⟨x, r, rfl, h⟩ := z_1r_inv hs
    obtain ⟨hc1, h⟩ := z_if_inv h
    cases h
  | iinc i z =>
    obtain ⟨x, hx, h⟩ := z_gi_inv hs
    obtain ⟨hc1, h⟩ := z_if_inv h
    cases h
  | goto t =>
    cases hs
  | ifCond cc t =>
    obtain ⟨x, r, rfl, h⟩ := z_1i_inv hs
    cases h
  | if_icmp cc t =>
    obtain ⟨x, z1, r, rfl, h⟩ := z_2i_inv hs
    cases h
  | tableswitch d lo hi2 os =>
    obtain ⟨x, r, rfl, h⟩ := z_1i_inv hs
    obtain ⟨t, ht, h⟩ := z_or_inv h
    cases h
  | lookupswitch d ps =>
    obtain ⟨x, r, rfl, h⟩ := z_1i_inv hs
    cases h
  | fadd =>
    obtain ⟨x, z1, r, rfl, h⟩ := z_2i_inv hs
    obtain ⟨hc1, h⟩ := z_if_inv h
    cases h
  | fsub =>
    obtain ⟨x, z1, r, rfl, h⟩ := z_2i_inv hs
    obtain ⟨hc1, h⟩ := z_if_inv h
    cases h
  | arraylength =>
    obtain ⟨a, r, rfl, h⟩ := z_1r_inv hs
    obtain ⟨hc1, h⟩ := z_if_inv h
    cases h
  | iaload =>
    obtain ⟨a, i, r, rfl, h⟩ := z_ri_inv hs
    obtain ⟨hc1, h⟩ := z_if_inv h
    cases h
  | baload =>
    obtain ⟨a, i, r, rfl, h⟩ := z_ri_inv hs
    obtain ⟨hc1, h⟩ := z_if_inv h
    cases h
  | laload =>
    obtain ⟨a, i, r, rfl, h⟩ := z_ri_inv hs
    obtain ⟨hc1, h⟩ := z_if_inv h
    cases h
  | aaload =>
    obtain ⟨a, i, r, rfl, h⟩ := z_ri_inv hs
    obtain ⟨hc1, h⟩ := z_if_inv h
    obtain ⟨b, hb, h⟩ := z_or_inv h
    cases h
  | iastore =>
    obtain ⟨a, i, x, r, rfl, h⟩ := z_aii_inv hs
    obtain ⟨hc1, h⟩ := z_if_inv h
    cases h
  | bastore =>
    obtain ⟨a, i, x, r, rfl, h⟩ := z_aii_inv hs
    obtain ⟨hc1, h⟩ := z_if_inv h
    cases h
  | lastore =>
    obtain ⟨a, i, x, r, rfl, h⟩ := z_ail_inv hs
    obtain ⟨hc1, h⟩ := z_if_inv h
    cases h
  | aastore =>
    obtain ⟨a, i, x, r, rfl, h⟩ := z_air_inv hs
    obtain ⟨hc1, h⟩ := z_if_inv h
    cases h
  | getfield F =>
    obtain ⟨a, r, rfl, h⟩ := z_1r_inv hs
    obtain ⟨hc1, h⟩ := z_if_inv h
    cases h
  | dload F =>
    obtain ⟨a, r, rfl, h⟩ := z_1r_inv hs
    obtain ⟨hc1, h⟩ := z_if_inv h
    cases h
  | fload F =>
    obtain ⟨a, r, rfl, h⟩ := z_1r_inv hs
    obtain ⟨hc1, h⟩ := z_if_inv h
    obtain ⟨b, hb, h⟩ := z_or_inv h
    cases h
  | putfield F =>
    obtain ⟨a, x, r, rfl, h⟩ := z_ri_inv hs
    obtain ⟨hc1, h⟩ := z_if_inv h
    cases h
  | dstore F =>
    obtain ⟨a, x, r, rfl, h⟩ := z_rl_inv hs
    obtain ⟨hc1, h⟩ := z_if_inv h
    cases h
  | fstore F =>
    obtain ⟨a, x, r, rfl, h⟩ := z_rr_inv hs
    obtain ⟨hc1, h⟩ := z_if_inv h
    cases h
  | checkcast q =>
    obtain ⟨a, r, rfl, h⟩ := z_1r_inv hs
    obtain ⟨hc1, h⟩ := z_if_inv h
    cases h
  | instanceof q =>
    obtain ⟨a, r, rfl, h⟩ := z_1r_inv hs
    obtain ⟨hc1, h⟩ := z_if_inv h
    cases h
  | athrow =>
    obtain ⟨a, r, rfl, h⟩ := z_1r_inv hs
    obtain ⟨hc1, h⟩ := z_if_inv h
    cases h
  | monitorenter =>
    obtain ⟨a, sp, d, dp, n, r, rfl, h⟩ := z_cpy_inv hs
    obtain ⟨hc1, h⟩ := z_if_inv h
    cases h
  | dup =>
    cases S with
    | nil => cases hs
    | cons v r =>
      obtain ⟨hc1, h⟩ := z_if_inv hs
      cases h
  | dup2 =>
    rcases S with _ | ⟨v, _ | ⟨u, r⟩⟩
    · cases hs
    · cases hs
    · obtain ⟨hc1, h⟩ := z_if_inv hs
      cases h
  | pop =>
    cases S with
    | nil => cases hs
    | cons v r =>
      obtain ⟨hc1, h⟩ := z_if_inv hs
      cases h
  | new ci =>
    obtain ⟨hc1, h⟩ := z_if_inv hs
    cases h
  | newarray ty =>
    obtain ⟨x, r, rfl, h⟩ := z_1i_inv hs
    obtain ⟨hc1, h⟩ := z_if_inv h
    cases h
  | anewarray q =>
    obtain ⟨x, r, rfl, h⟩ := z_1i_inv hs
    obtain ⟨hc1, h⟩ := z_if_inv h
    cases h
  | invokestatic j => exact h1 j rfl
  | invokespecial j => exact h2 j rfl
  | invokevirtual j => exact h3 j rfl
  | ret q =>
    obtain ⟨x, h1, h2, h3⟩ := z_rti_inv hs
    exact absurd h3 (by intro q; cases q)
  | lreturn =>
    obtain ⟨x, h1, h3⟩ := z_rtl_inv hs
    exact absurd h3 (by intro q; cases q)
  | areturn =>
    obtain ⟨x, h1, h3⟩ := z_rtr_inv hs
    exact absurd h3 (by intro q; cases q)
  | return_ =>
    obtain ⟨h1, h3⟩ := z_rtv_inv hs
    exact absurd h3 (by intro q; cases q)

  | _ => exact absurd hs (by intro q; cases q)
theorem z_noret {ins : Instr} {w : Option Value} (h1 : ∀ j, ins ≠ .ret j) (h2 : ins ≠ .lreturn) (h3 : ins ≠ .areturn) (h4 : ins ≠ .return_) : z_st ins len pc L S M ≠ some (.inr (.inl w)) := by
  intro hs
  cases ins with
  | iadd =>
    obtain ⟨x, z1, r, rfl, h⟩ := z_2i_inv hs
    cases h
  | isub =>
    obtain ⟨x, z1, r, rfl, h⟩ := z_2i_inv hs
    cases h
  | imul =>
    obtain ⟨x, z1, r, rfl, h⟩ := z_2i_inv hs
    cases h
  | iand =>
    obtain ⟨x, z1, r, rfl, h⟩ := z_2i_inv hs
    cases h
  | ior =>
    obtain ⟨x, z1, r, rfl, h⟩ := z_2i_inv hs
    cases h
  | ixor =>
    obtain ⟨x, z1, r, rfl, h⟩ := z_2i_inv hs
    cases h
  | ishl =>
    obtain ⟨x, z1, r, rfl, h⟩ := z_2i_inv hs
    cases h
  | ishr =>
    obtain ⟨x, z1, r, rfl, h⟩ := z_2i_inv hs
    cases h
  | iushr =>
    obtain ⟨x, z1, r, rfl, h⟩ := z_2i_inv hs
    cases h
  | idiv =>
    obtain ⟨x, z1, r, rfl, h⟩ := z_2i_inv hs
    obtain ⟨hc1, h⟩ := z_if_inv h
    cases h
  | irem =>
    obtain ⟨x, z1, r, rfl, h⟩ := z_2i_inv hs
    obtain ⟨hc1, h⟩ := z_if_inv h
    cases h
  | ladd =>
    obtain ⟨x, z1, r, rfl, h⟩ := z_2l_inv hs
    cases h
  | lsub =>
    obtain ⟨x, z1, r, rfl, h⟩ := z_2l_inv hs
    cases h
  | lmul =>
    obtain ⟨x, z1, r, rfl, h⟩ := z_2l_inv hs
    cases h
  | land =>
    obtain ⟨x, z1, r, rfl, h⟩ := z_2l_inv hs
    cases h
  | lor =>
    obtain ⟨x, z1, r, rfl, h⟩ := z_2l_inv hs
    cases h
  | lcmp =>
    obtain ⟨x, z1, r, rfl, h⟩ := z_2l_inv hs
    cases h
  | ldiv =>
    obtain ⟨x, z1, r, rfl, h⟩ := z_2l_inv hs
    obtain ⟨hc1, h⟩ := z_if_inv h
    cases h
  | lrem =>
    obtain ⟨x, z1, r, rfl, h⟩ := z_2l_inv hs
    obtain ⟨hc1, h⟩ := z_if_inv h
    cases h
  | lshl =>
    obtain ⟨x, z1, r, rfl, h⟩ := z_li_inv hs
    cases h
  | lshr =>
    obtain ⟨x, z1, r, rfl, h⟩ := z_li_inv hs
    cases h
  | i2l =>
    obtain ⟨x, r, rfl, h⟩ := z_1i_inv hs
    cases h
  | l2i =>
    obtain ⟨x, r, rfl, h⟩ := z_1l_inv hs
    cases h
  | i2c =>
    obtain ⟨x, r, rfl, h⟩ := z_1i_inv hs
    cases h
  | iconst z =>
    cases hs
  | ldc2_w q =>
    cases hs
  | ldc q =>
    cases hs
  | iload i =>
    obtain ⟨x, hx, h⟩ := z_gi_inv hs
    cases h
  | lload i =>
    obtain ⟨x, hx, h⟩ := z_gl_inv hs
    cases h
  | aload i =>
    obtain ⟨x, hx, h⟩ := z_gr_inv hs
    cases h
  | istore i =>
    obtain ⟨x, r, rfl, h⟩ := z_1i_inv hs
    obtain ⟨hc1, h⟩ := z_if_inv h
    cases h
  | lstore i =>
    obtain ⟨x, r, rfl, h⟩ := z_1l_inv hs
    obtain ⟨hc1, h⟩ := z_if_inv h
    cases h
  | astore i =>
    obtain ⟨x, r, rfl, h⟩ := z_1r_inv hs
    obtain ⟨hc1, h⟩ := z_if_inv h
    cases h
  | iinc i z =>
    obtain ⟨x, hx, h⟩ := z_gi_inv hs
    obtain ⟨hc1, h⟩ := z_if_inv h
    cases h
  | goto t =>
    cases hs
  | ifCond cc t =>
    obtain ⟨x, r, rfl, h⟩ := z_1i_inv hs
    cases h
  | if_icmp cc t =>
    obtain ⟨x, z1, r, rfl, h⟩ := z_2i_inv hs
    cases h
  | tableswitch d lo hi2 os =>
    obtain ⟨x, r, rfl, h⟩ := z_1i_inv hs
    obtain ⟨t, ht, h⟩ := z_or_inv h
    cases h
  | lookupswitch d ps =>
    obtain ⟨x, r, rfl, h⟩ := z_1i_inv hs
    cases h
  | fadd =>
    obtain ⟨x, z1, r, rfl, h⟩ := z_2i_inv hs
    obtain ⟨hc1, h⟩ := z_if_inv h
    cases h
  | fsub =>
    obtain ⟨x, z1, r, rfl, h⟩ := z_2i_inv hs
    obtain ⟨hc1, h⟩ := z_if_inv h
    cases h
  | arraylength =>
    obtain ⟨a, r, rfl, h⟩ := z_1r_inv hs
    obtain ⟨hc1, h⟩ := z_if_inv h
    cases h
  | iaload =>
    obtain ⟨a, i, r, rfl, h⟩ := z_ri_inv hs
    obtain ⟨hc1, h⟩ := z_if_inv h
    cases h
  | baload =>
    obtain ⟨a, i, r, rfl, h⟩ := z_ri_inv hs
    obtain ⟨hc1, h⟩ := z_if_inv h
    cases h
  | laload =>
    obtain ⟨a, i, r, rfl, h⟩ := z_ri_inv hs
    obtain ⟨hc1, h⟩ := z_if_inv h
    cases h
  | aaload =>
    obtain ⟨a, i, r, rfl, h⟩ := z_ri_inv hs
    obtain ⟨hc1, h⟩ := z_if_inv h
    obtain ⟨b, hb, h⟩ := z_or_inv h
    cases h
  | iastore =>
    obtain ⟨a, i, x, r, rfl, h⟩ := z_aii_inv hs
    obtain ⟨hc1, h⟩ := z_if_inv h
    cases h
  | bastore =>
    obtain ⟨a, i, x, r, rfl, h⟩ := z_aii_inv hs
    obtain ⟨hc1, h⟩ := z_if_inv h
    cases h
  | lastore =>
    obtain ⟨a, i, x, r, rfl, h⟩ := z_ail_inv hs
    obtain ⟨hc1, h⟩ := z_if_inv h
    cases h
  | aastore =>
    obtain ⟨a, i, x, r, rfl, h⟩ := z_air_inv hs
    obtain ⟨hc1, h⟩ := z_if_inv h
    cases h
  | getfield F =>
    obtain ⟨a, r, rfl, h⟩ := z_1r_inv hs
    obtain ⟨hc1, h⟩ := z_if_inv h
    cases h
  | dload F =>
    obtain ⟨a, r, rfl, h⟩ := z_1r_inv hs
    obtain ⟨hc1, h⟩ := z_if_inv h
    cases h
  | fload F =>
    obtain ⟨a, r, rfl, h⟩ := z_1r_inv hs
    obtain ⟨hc1, h⟩ := z_if_inv h
    obtain ⟨b, hb, h⟩ := z_or_inv h
    cases h
  | putfield F =>
    obtain ⟨a, x, r, rfl, h⟩ := z_ri_inv hs
    obtain ⟨hc1, h⟩ := z_if_inv h
    cases h
  | dstore F =>
    obtain ⟨a, x, r, rfl, h⟩ := z_rl_inv hs
    obtain ⟨hc1, h⟩ := z_if_inv h
    cases h
  | fstore F =>
    obtain ⟨a, x, r, rfl, h⟩ := z_rr_inv hs
    obtain ⟨hc1, h⟩ := z_if_inv h
    cases h
  | checkcast q =>
    obtain ⟨a, r, rfl, h⟩ := z_1r_inv hs
    obtain ⟨hc1, h⟩ := z_if_inv h
    cases h
  | instanceof q =>
    obtain ⟨a, r, rfl, h⟩ := z_1r_inv hs
    obtain ⟨hc1, h⟩ := z_if_inv h
    cases h
  | athrow =>
    obtain ⟨a, r, rfl, h⟩ := z_1r_inv hs
    obtain ⟨hc1, h⟩ := z_if_inv h
    cases h
  | monitorenter =>
    obtain ⟨a, sp, d, dp, n, r, rfl, h⟩ := z_cpy_inv hs
    obtain ⟨hc1, h⟩ := z_if_inv h
    cases h
  | dup =>
    cases S with
    | nil => cases hs
    | cons v r =>
      obtain ⟨hc1, h⟩ := z_if_inv hs
      cases h
  | dup2 =>
    rcases S with _ | ⟨v, _ | ⟨u, r⟩⟩
    · cases hs
    · cases hs
    · obtain ⟨hc1, h⟩ := z_if_inv hs
      cases h
  | pop =>
    cases S with
    | nil => cases hs
    | cons v r =>
      obtain ⟨hc1, h⟩ := z_if_inv hs
      cases h
  | new ci =>
    obtain ⟨hc1, h⟩ := z_if_inv hs
    cases h
  | newarray ty =>
    obtain ⟨x, r, rfl, h⟩ := z_1i_inv hs
    obtain ⟨hc1, h⟩ := z_if_inv h
    cases h
  | anewarray q =>
    obtain ⟨x, r, rfl, h⟩ := z_1i_inv hs
    obtain ⟨hc1, h⟩ := z_if_inv h
    cases h
  | invokestatic j => exact absurd (z_ivs_inv (z_args_inv hs).2.2).2 (by intro q; cases q)
  | invokespecial j =>
    obtain ⟨a, as1, h1, h2, h3, h4⟩ := z_ivr_inv (z_args_inv hs).2.2
    exact absurd h4 (by intro q; cases q)
  | invokevirtual j =>
    obtain ⟨a, as1, h1, h2, h3, h4⟩ := z_ivr_inv (z_args_inv hs).2.2
    exact absurd h4 (by intro q; cases q)

  | ret q => exact h1 q rfl
  | lreturn => exact h2 rfl
  | areturn => exact h3 rfl
  | return_ => exact h4 rfl
  | _ => exact absurd hs (by intro q; cases q)
end

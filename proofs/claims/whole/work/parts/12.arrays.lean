section
variable {D : va_G} {AC : Nat → ClassId} {xa : Nat → Nat} {sv : Option Nat} {bs : Nat} {g : Nat → Int32} {y : Nat} {p : Program} {l : Launch} {e : Env} {R : Room} {s : State} {m : MethodId} {args : Array Value} {below : List Frame} {meth : Method} {c : Code} {Q : State → Prop}
variable {rt pc len cn sn : Nat} {ini : Bool} {raw : Instr} {L : Lo} {S r : List Value} {M : Mm}
theorem z_set_arr {H H1 : Heap} {a : Nat} {e e0 : va_E} {M' : Mm} (hP : z_P D AC xa sv bs g M H) (u1 : 18 ≤ a) (u2 : a < M.1) (h1' : M'.1 = M.1) (he : z_en AC xa sv bs M' a = e) (hb : ∀ b, b ≠ a → M'.2.1 b = M.2.1 b ∧ M'.2.2.1 b = M.2.2.1 b ∧ M'.2.2.2 b = M.2.2.2 b) (hz : M.1 < 151 → H1.size = H.size) (hP1 : va_P D z_cl ((z_w AC xa sv bs M).set (a - 18) (bs + (a - 18), e)) H1) : z_P D AC xa sv bs g M' H1 := by
  rw [z_w_set u1 u2 h1' he (fun b hb' => z_en_same (hb b hb').1 (hb b hb').2.1 (hb b hb').2.2)] at hP1
  exact ⟨hP1, fun q => by rw [hz (by rw [← h1']; exact q), h1']; exact hP.2.1 (by rw [← h1']; exact q), by rw [h1']; exact hP.2.2.1, by rw [h1']; exact hP.2.2.2.1, by rw [(hb 0 (by omega)).1]; exact hP.2.2.2.2⟩
theorem z_upd {f : Nat → Nat → Int32} {a i : Nat} {x : Int32} : u2 f a i x a = fun j => if j = i then x else f a j := by
  funext j; simp [u2]
theorem z_updL {f : Nat → Nat → Int64} {a i : Nat} {x : Int64} : u2 f a i x a = fun j => if j = i then x else f a j := by
  funext j; simp [u2]
theorem z_updR {f : Nat → Nat → Option Nat} {a i : Nat} {x : Option Nat} : u2 f a i x a = fun j => if j = i then x else f a j := by
  funext j; simp [u2]
theorem zs_iald (hF : z_Fr D AC xa sv bs g y p l e R s m args below meth c) {a : Nat} {i : Int32} (hdg : decode (z_by y) pc = .ok (.iaload, 1)) (h : (z_ok M.1 a 1 || z_ok M.1 a 6 || z_ok M.1 a 9) = true) (hin : z_inb i (z_len M a) = true) (k : z_Kk D AC xa sv bs g p l e R s m args below meth c Q cn sn (pc + 1) L (.int (z_ia M a i.toNatClampNeg) :: r) M) : z_Kk D AC xa sv bs g p l e R s m args below meth c Q cn sn pc L (.int i :: .ref a :: r) M := by
  intro H locs ls hP hS hL hn
  have kk := k H locs ls hP hS hL hn
  have hv := z_inb_vp hin
  rcases zi_or h with h | h
  · rcases zi_or h with h | h
    · obtain ⟨e1, e2⟩ := z_ok_kd h
      obtain ⟨u1, u2⟩ := z_kd_up e2 (by omega)
      rw [z_ok_len h (by decide)] at hv
      rw [z_ia_of h (by decide) (by decide)] at kk
      rw [List.map_cons, List.map_cons, z_tv_hi u1]
      exact va_iald hF.1 hF.2.1 hF.K hP.1 (a - 18) 0 (by rw [z_w_get u1 e1, z_en_1 e2]) rfl hv hdg kk
    · obtain ⟨e1, e2⟩ := z_ok_kd h
      obtain ⟨u1, u2⟩ := z_kd_6 e2
      rw [z_ok_len h (by decide)] at hv
      rw [List.map_cons, List.map_cons, z_tv_lo (by omega)]
      refine va_ti hF.1 hF.2.1 (hF.2.2.2.2.1.2.2.2.1 a u1 u2).2 hS hv ?_ hdg kk
      show Value.int _ = Value.int _
      unfold z_ia
      rw [e2]; rfl
  · obtain ⟨e1, e2⟩ := z_ok_kd h
    have e0 := z_kd_9 e2
    subst e0
    rw [List.map_cons, List.map_cons, z_tv_lo (by omega)]
    have hv2 : vp_in i (g 100000).toNatClampNeg := by
      have e3 : z_len M 0 = (g 100000).toNatClampNeg := by rw [← hP.2.2.2.2]; rfl
      rw [e3] at hv; exact hv
    refine va_ti hF.1 hF.2.1 hF.2.2.2.2.1.2.2.2.2.2.2.2.2 hS hv2 ?_ hdg kk
    show Value.int _ = Value.int _
    rw [← hP.2.2.2.2]
    rfl
theorem zs_bald (hF : z_Fr D AC xa sv bs g y p l e R s m args below meth c) {a : Nat} {i : Int32} (hdg : decode (z_by y) pc = .ok (.baload, 1)) (h : (z_ok M.1 a 2 || z_ok M.1 a 7) = true) (hin : z_inb i (z_len M a) = true) (k : z_Kk D AC xa sv bs g p l e R s m args below meth c Q cn sn (pc + 1) L (.int (z_ia M a i.toNatClampNeg) :: r) M) : z_Kk D AC xa sv bs g p l e R s m args below meth c Q cn sn pc L (.int i :: .ref a :: r) M := by
  intro H locs ls hP hS hL hn
  have kk := k H locs ls hP hS hL hn
  have hv := z_inb_vp hin
  rcases zi_or h with h | h
  · obtain ⟨e1, e2⟩ := z_ok_kd h
    obtain ⟨u1, u2⟩ := z_kd_up e2 (by omega)
    rw [z_ok_len h (by decide)] at hv
    rw [z_ia_of h (by decide) (by decide)] at kk
    rw [List.map_cons, List.map_cons, z_tv_hi u1]
    exact va_zald hF.1 hF.2.1 hF.K hP.1 (a - 18) 1 (by rw [z_w_get u1 e1, z_en_2 e2]) rfl hv hdg kk
  · obtain ⟨e1, e2⟩ := z_ok_kd h
    obtain ⟨u1, u2, u3, u4⟩ := z_kd_7 e2
    rw [z_ok_len h (by decide), u3] at hv
    have hT := ((hF.2.2.2.2.1.2.2.2.2.2.2.1).1 (a - 12) (by omega)).2.2.2
    rw [List.map_cons, List.map_cons, z_tv_lo (by omega)]
    dsimp only at hT
    rw [show 12 + (a - 12) = a by omega] at hT
    refine va_tb hF.1 hF.2.1 hT hS hv ?_ hdg kk
    show Value.int _ = Value.int _
    unfold z_ia
    rw [e2, u4]; rfl
theorem zs_lald (hF : z_Fr D AC xa sv bs g y p l e R s m args below meth c) {a : Nat} {i : Int32} (hdg : decode (z_by y) pc = .ok (.laload, 1)) (h : z_ok M.1 a 3 = true) (hin : z_inb i (z_len M a) = true) (k : z_Kk D AC xa sv bs g p l e R s m args below meth c Q cn sn (pc + 1) L (.long (M.2.2.1 a i.toNatClampNeg) :: r) M) : z_Kk D AC xa sv bs g p l e R s m args below meth c Q cn sn pc L (.int i :: .ref a :: r) M := by
  intro H locs ls hP hS hL hn
  have kk := k H locs ls hP hS hL hn
  have hv := z_inb_vp hin
  obtain ⟨e1, e2⟩ := z_ok_kd h
  obtain ⟨u1, u2⟩ := z_kd_up e2 (by omega)
  rw [z_ok_len h (by decide)] at hv
  rw [List.map_cons, List.map_cons, z_tv_hi u1]
  exact va_lald hF.1 hF.2.1 hF.K hP.1 (a - 18) 2 (by rw [z_w_get u1 e1, z_en_3 e2]) rfl hv hdg kk
theorem zs_aald (hF : z_Fr D AC xa sv bs g y p l e R s m args below meth c) {a b : Nat} {i : Int32} (hdg : decode (z_by y) pc = .ok (.aaload, 1)) (h : (z_ok M.1 a 4 || z_ok M.1 a 5) = true) (hin : z_inb i (z_len M a) = true) (hb : M.2.2.2 a i.toNatClampNeg = some b) (k : z_Kk D AC xa sv bs g p l e R s m args below meth c Q cn sn (pc + 1) L (.ref b :: r) M) : z_Kk D AC xa sv bs g p l e R s m args below meth c Q cn sn pc L (.int i :: .ref a :: r) M := by
  intro H locs ls hP hS hL hn
  have kk := k H locs ls hP hS hL hn
  have hv := z_inb_vp hin
  rw [List.map_cons, ← z_ro_some, ← hb] at kk
  rcases zi_or h with h | h
  · obtain ⟨e1, e2⟩ := z_ok_kd h
    obtain ⟨u1, u2⟩ := z_kd_up e2 (by omega)
    rw [z_ok_len h (by decide)] at hv
    rw [List.map_cons, List.map_cons, z_tv_hi u1]
    exact va_aldq hF.1 hF.2.1 hF.K hP.1 (a - 18) 3 (by rw [z_w_get u1 e1, z_en_4 e2]) rfl hv hdg kk
  · obtain ⟨e1, e2⟩ := z_ok_kd h
    obtain ⟨u1, u2⟩ := z_kd_up e2 (by omega)
    rw [z_ok_len h (by decide)] at hv
    rw [List.map_cons, List.map_cons, z_tv_hi u1]
    exact va_aldq hF.1 hF.2.1 hF.K hP.1 (a - 18) 4 (by rw [z_w_get u1 e1, z_en_5 e2]) rfl hv hdg kk
theorem zs_iast (hF : z_Fr D AC xa sv bs g y p l e R s m args below meth c) {a : Nat} {i : Int32} {x : Int32} (hdg : decode (z_by y) pc = .ok (.iastore, 1)) (h : z_ok M.1 a 1 = true) (hin : z_inb i (z_len M a) = true) (k : z_Kk D AC xa sv bs g p l e R s m args below meth c Q cn sn (pc + 1) L r (M.1, u2 M.2.1 a i.toNatClampNeg x, M.2.2)) : z_Kk D AC xa sv bs g p l e R s m args below meth c Q cn sn pc L (.int x :: .int i :: .ref a :: r) M := by
  intro H locs ls hP hS hL hn
  have hv := z_inb_vp hin
  obtain ⟨e1, e2⟩ := z_ok_kd h
  obtain ⟨w1, w2⟩ := z_kd_up e2 (by omega)
  rw [z_ok_len h (by decide)] at hv
  rw [List.map_cons, List.map_cons, List.map_cons, z_tv_hi w1]
  have hg : (z_w AC xa sv bs M)[a - 18]? = some (bs + (a - 18), .inl (AC 0, z_al a, .inl (M.2.1 a))) := by rw [z_w_get w1 e1, z_en_1 e2]
  refine W.iast hF.1 hF.2.1 (hP.1 (a - 18) _ hg) ((hF.K.2 0 _ rfl).1 (z_al a) (fun j => .int (M.2.1 a j))) (fun q => by cases q) (by show ¬ (i < 0 ∨ (arrV _ _ _).slots.size ≤ _); rw [arrV_size]; exact hv) rfl rfl hdg fun H1 ee z oq => ?_
  have he : va_at D z_cl (bs + (a - 18), (.inl (AC 0, z_al a, .inl (fun j => if j = i.toNatClampNeg then x else M.2.1 a j)) : va_E)) H1 := by
    show H1[bs + (a - 18)]? = some (vp_cell _ _)
    rw [ee, show vp_cell (AC 0) (z_al a, .inl (M.2.1 a)) = arrV (AC 0) (z_al a) (fun j => .int (M.2.1 a j)) from rfl, show vp_cell (AC 0) (z_al a, .inl (fun j => if j = i.toNatClampNeg then x else M.2.1 a j)) = arrV (AC 0) (z_al a) (fun j => .int (if j = i.toNatClampNeg then x else M.2.1 a j)) from rfl, arrV_store]
    congr 2
    funext q
    by_cases hq : q = i.toNatClampNeg
    · subst hq
      simp [updV]
    · simp [updV, hq]
  refine k H1 _ ls (z_set_arr (M' := (M.1, u2 M.2.1 a i.toNatClampNeg x, M.2.2)) (e0 := .inl (AC 0, z_al a, .inl (M.2.1 a))) hP w1 e1 rfl (by rw [z_en_1 e2]; dsimp only; rw [z_upd]) (fun b hb => ?_) (fun _ => z) (hP.1.set z_w_D hg he oq)) (hS.put z oq (show bs ≤ bs + (a - 18) by omega)) hL hn
  exact ⟨u2_ne hb, rfl, rfl⟩
theorem zs_bast (hF : z_Fr D AC xa sv bs g y p l e R s m args below meth c) {a : Nat} {i : Int32} {x : Int32} (hdg : decode (z_by y) pc = .ok (.bastore, 1)) (h : z_ok M.1 a 2 = true) (hin : z_inb i (z_len M a) = true) (hx : z_b01 x = true) (k : z_Kk D AC xa sv bs g p l e R s m args below meth c Q cn sn (pc + 1) L r (M.1, u2 M.2.1 a i.toNatClampNeg x, M.2.2)) : z_Kk D AC xa sv bs g p l e R s m args below meth c Q cn sn pc L (.int x :: .int i :: .ref a :: r) M := by
  intro H locs ls hP hS hL hn
  have hv := z_inb_vp hin
  obtain ⟨e1, e2⟩ := z_ok_kd h
  obtain ⟨w1, w2⟩ := z_kd_up e2 (by omega)
  rw [z_ok_len h (by decide)] at hv
  rw [List.map_cons, List.map_cons, List.map_cons, z_tv_hi w1]
  have hg : (z_w AC xa sv bs M)[a - 18]? = some (bs + (a - 18), .inl (AC 1, z_al a, .inl (M.2.1 a))) := by rw [z_w_get w1 e1, z_en_2 e2]
  refine W.zast hF.1 hF.2.1 (hP.1 (a - 18) _ hg) ((hF.K.2 1 _ rfl).1 (z_al a) (fun j => .int (M.2.1 a j))) (fun q => by cases q) (by show ¬ (i < 0 ∨ (arrV _ _ _).slots.size ≤ _); rw [arrV_size]; exact hv) rfl rfl hdg fun H1 ee z oq => ?_
  have he : va_at D z_cl (bs + (a - 18), (.inl (AC 1, z_al a, .inl (fun j => if j = i.toNatClampNeg then x else M.2.1 a j)) : va_E)) H1 := by
    show H1[bs + (a - 18)]? = some (vp_cell _ _)
    rw [ee, show vp_cell (AC 1) (z_al a, .inl (M.2.1 a)) = arrV (AC 1) (z_al a) (fun j => .int (M.2.1 a j)) from rfl, show vp_cell (AC 1) (z_al a, .inl (fun j => if j = i.toNatClampNeg then x else M.2.1 a j)) = arrV (AC 1) (z_al a) (fun j => .int (if j = i.toNatClampNeg then x else M.2.1 a j)) from rfl, arrV_store]
    congr 2
    funext q
    by_cases hq : q = i.toNatClampNeg
    · subst hq
      simp [updV]; exact (z_b01_nar hx).2.1
    · simp [updV, hq]
  refine k H1 _ ls (z_set_arr (M' := (M.1, u2 M.2.1 a i.toNatClampNeg x, M.2.2)) (e0 := .inl (AC 1, z_al a, .inl (M.2.1 a))) hP w1 e1 rfl (by rw [z_en_2 e2]; dsimp only; rw [z_upd]) (fun b hb => ?_) (fun _ => z) (hP.1.set z_w_D hg he oq)) (hS.put z oq (show bs ≤ bs + (a - 18) by omega)) hL hn
  exact ⟨u2_ne hb, rfl, rfl⟩
theorem zs_last (hF : z_Fr D AC xa sv bs g y p l e R s m args below meth c) {a : Nat} {i : Int32} {x : Int64} (hdg : decode (z_by y) pc = .ok (.lastore, 1)) (h : z_ok M.1 a 3 = true) (hin : z_inb i (z_len M a) = true) (k : z_Kk D AC xa sv bs g p l e R s m args below meth c Q cn sn (pc + 1) L r (M.1, M.2.1, u2 M.2.2.1 a i.toNatClampNeg x, M.2.2.2)) : z_Kk D AC xa sv bs g p l e R s m args below meth c Q cn sn pc L (.long x :: .int i :: .ref a :: r) M := by
  intro H locs ls hP hS hL hn
  have hv := z_inb_vp hin
  obtain ⟨e1, e2⟩ := z_ok_kd h
  obtain ⟨w1, w2⟩ := z_kd_up e2 (by omega)
  rw [z_ok_len h (by decide)] at hv
  rw [List.map_cons, List.map_cons, List.map_cons, z_tv_hi w1]
  have hg : (z_w AC xa sv bs M)[a - 18]? = some (bs + (a - 18), .inl (AC 2, z_al a, .inr (.inl (M.2.2.1 a)))) := by rw [z_w_get w1 e1, z_en_3 e2]
  refine W.last hF.1 hF.2.1 (hP.1 (a - 18) _ hg) ((hF.K.2 2 _ rfl).1 (z_al a) (fun j => .long (M.2.2.1 a j))) (fun q => by cases q) (by show ¬ (i < 0 ∨ (arrV _ _ _).slots.size ≤ _); rw [arrV_size]; exact hv) rfl rfl hdg fun H1 ee z oq => ?_
  have he : va_at D z_cl (bs + (a - 18), (.inl (AC 2, z_al a, .inr (.inl (fun j => if j = i.toNatClampNeg then x else M.2.2.1 a j))) : va_E)) H1 := by
    show H1[bs + (a - 18)]? = some (vp_cell _ _)
    rw [ee, show vp_cell (AC 2) (z_al a, .inr (.inl (M.2.2.1 a))) = arrV (AC 2) (z_al a) (fun j => .long (M.2.2.1 a j)) from rfl, show vp_cell (AC 2) (z_al a, .inr (.inl (fun j => if j = i.toNatClampNeg then x else M.2.2.1 a j))) = arrV (AC 2) (z_al a) (fun j => .long (if j = i.toNatClampNeg then x else M.2.2.1 a j)) from rfl, arrV_store]
    congr 2
    funext q
    by_cases hq : q = i.toNatClampNeg
    · subst hq
      simp [updV]
    · simp [updV, hq]
  refine k H1 _ ls (z_set_arr (M' := (M.1, M.2.1, u2 M.2.2.1 a i.toNatClampNeg x, M.2.2.2)) (e0 := .inl (AC 2, z_al a, .inr (.inl (M.2.2.1 a)))) hP w1 e1 rfl (by rw [z_en_3 e2]; dsimp only; rw [z_updL]) (fun b hb => ?_) (fun _ => z) (hP.1.set z_w_D hg he oq)) (hS.put z oq (show bs ≤ bs + (a - 18) by omega)) hL hn
  exact ⟨rfl, u2_ne hb, rfl⟩
theorem zs_aast4 (hF : z_Fr D AC xa sv bs g y p l e R s m args below meth c) {a x : Nat} {i : Int32} (hdg : decode (z_by y) pc = .ok (.aastore, 1)) (h : z_ok M.1 a 4 = true) (hx : z_ok M.1 x 13 = true) (hin : z_inb i (z_len M a) = true) (k : z_Kk D AC xa sv bs g p l e R s m args below meth c Q cn sn (pc + 1) L r (M.1, M.2.1, M.2.2.1, u2 M.2.2.2 a i.toNatClampNeg (some x))) : z_Kk D AC xa sv bs g p l e R s m args below meth c Q cn sn pc L (.ref x :: .int i :: .ref a :: r) M := by
  intro H locs ls hP hS hL hn
  have hv := z_inb_vp hin
  obtain ⟨e1, e2⟩ := z_ok_kd h
  obtain ⟨w1, w2⟩ := z_kd_up e2 (by omega)
  obtain ⟨f1, f2⟩ := z_ok_kd hx
  obtain ⟨v1, v2⟩ := z_kd_up f2 (by omega)
  rw [z_ok_len h (by decide)] at hv
  rw [List.map_cons, List.map_cons, List.map_cons, z_tv_hi w1, z_tv_hi v1]
  have hg : (z_w AC xa sv bs M)[a - 18]? = some (bs + (a - 18), .inl (AC 3, z_al a, .inr (.inr (.inr (.inr (fun j => z_ro xa sv bs (M.2.2.2 a j))))))) := by rw [z_w_get w1 e1, z_en_4 e2]
  have hgx := z_w_get (AC := AC) (xa := xa) (sv := sv) (bs := bs) (M := M) v1 f1
  rw [z_en_obj (ci := 3) (by rw [f2])] at hgx
  obtain ⟨r', hr', cellV, g1, g2, g3, -⟩ := hP.1 (x - 18) _ hgx
  have hc := (z_cls_ok 3 (by decide)).1
  have hcls := (hF.K.1 3 _ hc).2
  obtain ⟨kA, comp, k1, k2, k3, -⟩ := (hF.K.2 3 _ rfl).2
  have hcomp : comp = D.1 3 := Option.some.inj (k3.symm.trans hcls.1)
  subst hcomp
  obtain ⟨kC, hkC, -⟩ := hcls.2
  have h0 : ¬ i < 0 := fun q => hv (Or.inl q)
  have hlt : i.toNatClampNeg < z_al a := Nat.not_le.mp fun q => hv (Or.inr q)
  refine W.aast hF.1 hF.2.1 (hP.1 (a - 18) _ hg) (fun q h => by cases h) (fun h => by cases h) k1 k2 rfl hkC ⟨h0, by show _ < (arrV _ _ _).slots.size; rw [arrV_size]; exact hlt⟩ g1 (fun q h => by rw [g3] at h; cases h) (by rw [g2]; exact hkC) (by rw [g2]; exact va_assign hcls) rfl rfl hdg fun H1 ee z oq => ?_
  have he : va_at D z_cl (bs + (a - 18), (.inl (AC 3, z_al a, .inr (.inr (.inr (.inr (fun j => if j = i.toNatClampNeg then some (bs + (x - 18)) else z_ro xa sv bs (M.2.2.2 a j)))))) : va_E)) H1 := by
    show H1[bs + (a - 18)]? = some (vp_cell _ _)
    rw [ee]
    rw [vp_cell_q, vp_cell_q, arrV_store]
    congr 2
    funext q
    by_cases hq : q = i.toNatClampNeg
    · subst hq
      simp [updV, va_rf]
    · simp [updV, hq]
  refine k H1 _ ls (z_set_arr (M' := (M.1, M.2.1, M.2.2.1, u2 M.2.2.2 a i.toNatClampNeg (some x))) (e0 := .inr (0, [])) hP w1 e1 rfl ?_ (fun b hb => ⟨rfl, rfl, u2_ne hb⟩) (fun _ => z) (hP.1.set z_w_D hg he oq)) (hS.put z oq (show bs ≤ bs + (a - 18) by omega)) hL hn
  rw [z_en_4 e2]
  have ef : (fun j => z_ro xa sv bs (u2 M.2.2.2 a i.toNatClampNeg (some x) a j)) = fun j => if j = i.toNatClampNeg then some (bs + (x - 18)) else z_ro xa sv bs (M.2.2.2 a j) := by
    funext j
    rw [z_updR]
    by_cases hq : j = i.toNatClampNeg
    · simp only [hq, if_pos]; exact z_ro_hi v1
    · simp only [hq, if_false]
  dsimp only
  rw [ef]
theorem zs_aast5 (hF : z_Fr D AC xa sv bs g y p l e R s m args below meth c) {a x : Nat} {i : Int32} (hdg : decode (z_by y) pc = .ok (.aastore, 1)) (h : z_ok M.1 a 5 = true) (hx : z_ok M.1 x 16 = true) (hin : z_inb i (z_len M a) = true) (k : z_Kk D AC xa sv bs g p l e R s m args below meth c Q cn sn (pc + 1) L r (M.1, M.2.1, M.2.2.1, u2 M.2.2.2 a i.toNatClampNeg (some x))) : z_Kk D AC xa sv bs g p l e R s m args below meth c Q cn sn pc L (.ref x :: .int i :: .ref a :: r) M := by
  intro H locs ls hP hS hL hn
  have hv := z_inb_vp hin
  obtain ⟨e1, e2⟩ := z_ok_kd h
  obtain ⟨w1, w2⟩ := z_kd_up e2 (by omega)
  obtain ⟨f1, f2⟩ := z_ok_kd hx
  obtain ⟨v1, v2⟩ := z_kd_up f2 (by omega)
  rw [z_ok_len h (by decide)] at hv
  rw [List.map_cons, List.map_cons, List.map_cons, z_tv_hi w1, z_tv_hi v1]
  have hg : (z_w AC xa sv bs M)[a - 18]? = some (bs + (a - 18), .inl (AC 4, z_al a, .inr (.inr (.inr (.inr (fun j => z_ro xa sv bs (M.2.2.2 a j))))))) := by rw [z_w_get w1 e1, z_en_5 e2]
  have hgx := z_w_get (AC := AC) (xa := xa) (sv := sv) (bs := bs) (M := M) v1 f1
  rw [z_en_obj (ci := 6) (by rw [f2])] at hgx
  obtain ⟨r', hr', cellV, g1, g2, g3, -⟩ := hP.1 (x - 18) _ hgx
  have hc := (z_cls_ok 6 (by decide)).1
  have hcls := (hF.K.1 6 _ hc).2
  obtain ⟨kA, comp, k1, k2, k3, -⟩ := (hF.K.2 4 _ rfl).2
  have hcomp : comp = D.1 6 := Option.some.inj (k3.symm.trans hcls.1)
  subst hcomp
  obtain ⟨kC, hkC, -⟩ := hcls.2
  have h0 : ¬ i < 0 := fun q => hv (Or.inl q)
  have hlt : i.toNatClampNeg < z_al a := Nat.not_le.mp fun q => hv (Or.inr q)
  refine W.aast hF.1 hF.2.1 (hP.1 (a - 18) _ hg) (fun q h => by cases h) (fun h => by cases h) k1 k2 rfl hkC ⟨h0, by show _ < (arrV _ _ _).slots.size; rw [arrV_size]; exact hlt⟩ g1 (fun q h => by rw [g3] at h; cases h) (by rw [g2]; exact hkC) (by rw [g2]; exact va_assign hcls) rfl rfl hdg fun H1 ee z oq => ?_
  have he : va_at D z_cl (bs + (a - 18), (.inl (AC 4, z_al a, .inr (.inr (.inr (.inr (fun j => if j = i.toNatClampNeg then some (bs + (x - 18)) else z_ro xa sv bs (M.2.2.2 a j)))))) : va_E)) H1 := by
    show H1[bs + (a - 18)]? = some (vp_cell _ _)
    rw [ee]
    rw [vp_cell_q, vp_cell_q, arrV_store]
    congr 2
    funext q
    by_cases hq : q = i.toNatClampNeg
    · subst hq
      simp [updV, va_rf]
    · simp [updV, hq]
  refine k H1 _ ls (z_set_arr (M' := (M.1, M.2.1, M.2.2.1, u2 M.2.2.2 a i.toNatClampNeg (some x))) (e0 := .inr (0, [])) hP w1 e1 rfl ?_ (fun b hb => ⟨rfl, rfl, u2_ne hb⟩) (fun _ => z) (hP.1.set z_w_D hg he oq)) (hS.put z oq (show bs ≤ bs + (a - 18) by omega)) hL hn
  rw [z_en_5 e2]
  have ef : (fun j => z_ro xa sv bs (u2 M.2.2.2 a i.toNatClampNeg (some x) a j)) = fun j => if j = i.toNatClampNeg then some (bs + (x - 18)) else z_ro xa sv bs (M.2.2.2 a j) := by
    funext j
    rw [z_updR]
    by_cases hq : j = i.toNatClampNeg
    · simp only [hq, if_pos]; exact z_ro_hi v1
    · simp only [hq, if_false]
  dsimp only
  rw [ef]
theorem z_cats {r : List Value} (hr : r.length ≤ 4) : ((r.map (z_tv xa sv bs)).map fun v => v.category).sum ≤ 8 := by
  have key : ∀ r : List Value, ((r.map (z_tv xa sv bs)).map fun v => v.category).sum ≤ 2 * r.length := by
    intro r
    induction r with
    | nil => simp
    | cons v r ih =>
      simp only [List.map_cons, List.sum_cons, List.length_cons]
      have := lv_cat (z_tv xa sv bs v)
      omega
  have := key r
  omega
theorem zs_cpy (hF : z_Fr D AC xa sv bs g y p l e R s m args below meth c) {a d ix : Nat} {sp dp n : Int32} (hdg : decode (z_by y) pc = .ok (.invokestatic ix, 3)) (ht : (z_owL.getD y 0, ix) ∈ z_yT) (ha : z_ok M.1 a 1 = true) (hd : z_ok M.1 d 1 = true) (h1 : ¬ sp < 0) (h2 : ¬ dp < 0) (h3 : ¬ n < 0) (h4 : sp.toNatClampNeg + n.toNatClampNeg ≤ z_len M a) (h5 : dp.toNatClampNeg + n.toNatClampNeg ≤ z_len M d) (hr : r.length ≤ 4) (hM : M.1 = 151)
    (k : z_Kk D AC xa sv bs g p l e R s m args below meth c Q cn sn (pc + 3) L r (M.1, (fun b j => if b = d then va_cpy (M.2.1 a) (M.2.1 d) sp.toNatClampNeg dp.toNatClampNeg n.toNatClampNeg j else M.2.1 b j), M.2.2)) : z_Kk D AC xa sv bs g p l e R s m args below meth c Q cn sn pc L (.int n :: .int dp :: .ref d :: .int sp :: .ref a :: r) M := by
  intro H locs ls hP hS hL hn
  obtain ⟨e1, e2⟩ := z_ok_kd ha
  obtain ⟨w1, w2⟩ := z_kd_up e2 (by omega)
  obtain ⟨f1, f2⟩ := z_ok_kd hd
  obtain ⟨v1, v2⟩ := z_kd_up f2 (by omega)
  rw [z_ok_len ha (by decide)] at h4
  rw [z_ok_len hd (by decide)] at h5
  rw [List.map_cons, List.map_cons, List.map_cons, List.map_cons, List.map_cons, z_tv_hi w1, z_tv_hi v1]
  have hga : (z_w AC xa sv bs M)[a - 18]? = some (bs + (a - 18), .inl (AC 0, z_al a, .inl (M.2.1 a))) := by rw [z_w_get w1 e1, z_en_1 e2]
  have hgd : (z_w AC xa sv bs M)[d - 18]? = some (bs + (d - 18), .inl (AC 0, z_al d, .inl (M.2.1 d))) := by rw [z_w_get v1 f1, z_en_1 f2]
  have hrm := z_room_ok y hF.2.2.2.2.2.2.2.2.2
  have hsum : ((r.map (z_tv xa sv bs)).map fun v => v.category).sum ≤ 8 := z_cats hr
  refine va_copyi hF.1 hF.2.1 hn.symm hF.2.2.2.1 (hF.tw (z_yT_ok (z_owL.getD y 0, ix) ht) rfl _) (hF.tw zw_yn rfl _) (hF.tw zw_ys rfl _) (hF.tw zw_yi rfl _) hF.K hP.1 z_w_D hS (a - 18) (d - 18) 0 0 hga hgd rfl rfl rfl h1 h2 h3 h4 h5 (fun _ _ => rfl) (Nat.le_trans hrm.1 hF.2.2.2.2.2.2.1) ?_ hdg (fun H1 locs1 hP1 _ hS1 => ?_)
  · have : 60 ≤ R.locals := Nat.le_trans hrm.2 hF.2.2.2.2.2.2.2.1
    have e : nativeFrameWords "java/lang/System" "arraycopy" 5 = 7 := by decide +kernel
    rw [e]; omega
  · refine k H1 locs1 ls (z_set_arr (M' := (M.1, (fun b j => if b = d then va_cpy (M.2.1 a) (M.2.1 d) sp.toNatClampNeg dp.toNatClampNeg n.toNatClampNeg j else M.2.1 b j), M.2.2)) (e0 := .inr (0, [])) hP v1 f1 rfl ?_ (fun b hb => ⟨?_, rfl, rfl⟩) (fun q => absurd q (by omega)) hP1) hS1 hL hn
    · rw [z_en_1 f2]
      simp only [if_true]
    · funext j
      simp [hb]
end

section
variable {D : va_G} {AC : Nat → ClassId} {xa : Nat → Nat} {sv : Option Nat} {bs : Nat} {g : Nat → Int32} {y : Nat} {p : Program} {l : Launch} {e : Env} {R : Room} {s : State} {m : MethodId} {args : Array Value} {below : List Frame} {meth : Method} {c : Code} {Q : State → Prop}
variable {rt pc len cn sn : Nat} {ini : Bool} {raw : Instr} {L : Lo} {S r : List Value} {M : Mm}
theorem zs_strv (hF : z_Fr D AC xa sv bs g y p l e R s m args below meth c) {a : Nat} (hdg : decode (z_by y) pc = .ok (.getfield 9, 3)) (ho : z_own (z_owL.getD y 0) = "java/lang/String") (h : z_ok M.1 a 8 = true) (k : z_Kk D AC xa sv bs g p l e R s m args below meth c Q cn sn (pc + 3) L (.ref (a + 5) :: r) M) : z_Kk D AC xa sv bs g p l e R s m args below meth c Q cn sn pc L (.ref a :: r) M := by
  intro H locs ls hP hS hL hn
  have kk := k H locs ls hP hS hL hn
  obtain ⟨u1, u2⟩ := z_kd_8 (z_ok_kd h).2
  have ow := hF.2.2.2.1
  rw [ho] at ow
  have hE := ((hF.2.2.2.2.1.2.2.2.2.2.2.1).1 (a - 7) (by omega)).2.2.1
  dsimp only at hE
  rw [show 7 + (a - 7) = a by omega, show 12 + (a - 7) = a + 5 by omega] at hE
  rw [List.map_cons, z_tv_lo (by omega)] at kk
  rw [List.map_cons, z_tv_lo (by omega)]
  exact vk_getf hF.1 hF.2.1 hE hS ow (hF.tw zw_sv rfl _) (fun _ h => h) hdg kk
theorem zs_strc (hF : z_Fr D AC xa sv bs g y p l e R s m args below meth c) {a : Nat} (hdg : decode (z_by y) pc = .ok (.getfield 15, 3)) (ho : z_own (z_owL.getD y 0) = "java/lang/String") (h : z_ok M.1 a 8 = true) (k : z_Kk D AC xa sv bs g p l e R s m args below meth c Q cn sn (pc + 3) L (.int 0 :: r) M) : z_Kk D AC xa sv bs g p l e R s m args below meth c Q cn sn pc L (.ref a :: r) M := by
  intro H locs ls hP hS hL hn
  have kk := k H locs ls hP hS hL hn
  obtain ⟨u1, u2⟩ := z_kd_8 (z_ok_kd h).2
  have ow := hF.2.2.2.1
  rw [ho] at ow
  have hE := ((hF.2.2.2.2.1.2.2.2.2.2.2.1).1 (a - 7) (by omega)).2.1
  dsimp only at hE
  rw [show 7 + (a - 7) = a by omega] at hE
  rw [List.map_cons, z_tv_lo (by omega)]
  exact vk_getf hF.1 hF.2.1 hE hS ow (hF.tw zw_sc rfl _) (fun _ h => h) hdg kk
theorem zs_alen (hF : z_Fr D AC xa sv bs g y p l e R s m args below meth c) {a : Nat} (hdg : decode (z_by y) pc = .ok (.arraylength, 1)) (h1 : a < M.1) (h2 : 1 ≤ z_kd a) (h3 : z_kd a ≤ 9) (h4 : z_kd a ≠ 8) (k : z_Kk D AC xa sv bs g p l e R s m args below meth c Q cn sn (pc + 1) L (.int (Int32.ofNat (z_len M a)) :: r) M) : z_Kk D AC xa sv bs g p l e R s m args below meth c Q cn sn pc L (.ref a :: r) M := by
  intro H locs ls hP hS hL hn
  have kk := k H locs ls hP hS hL hn
  rw [List.map_cons] at kk ⊢
  have kk : W p l e R s m args below meth c H locs cn sn Q (F0 m (pc + 1) ls (.int (Int32.ofNat (z_len M a)) :: r.map (z_tv xa sv bs))) := kk
  have hk : z_kd a = 1 ∨ z_kd a = 2 ∨ z_kd a = 3 ∨ z_kd a = 4 ∨ z_kd a = 5 ∨ z_kd a = 6 ∨ z_kd a = 7 ∨ z_kd a = 9 := by omega
  have hz : a ≠ 0 → z_len M a = z_al a := z_len_al
  rcases hk with e | e | e | e | e | e | e | e
  · obtain ⟨u1, u2⟩ := z_kd_up e (by omega)
    rw [hz (by omega)] at kk
    rw [z_tv_hi u1]
    exact va_alen hF.1 hF.2.1 hF.K hP.1 (a - 18) 0 (by rw [z_w_get u1 h1, z_en_1 e]) rfl rfl hdg kk
  · obtain ⟨u1, u2⟩ := z_kd_up e (by omega)
    rw [hz (by omega)] at kk
    rw [z_tv_hi u1]
    exact va_alen hF.1 hF.2.1 hF.K hP.1 (a - 18) 1 (by rw [z_w_get u1 h1, z_en_2 e]) rfl rfl hdg kk
  · obtain ⟨u1, u2⟩ := z_kd_up e (by omega)
    rw [hz (by omega)] at kk
    rw [z_tv_hi u1]
    exact va_alen hF.1 hF.2.1 hF.K hP.1 (a - 18) 2 (by rw [z_w_get u1 h1, z_en_3 e]) rfl rfl hdg kk
  · obtain ⟨u1, u2⟩ := z_kd_up e (by omega)
    rw [hz (by omega)] at kk
    rw [z_tv_hi u1]
    exact va_alen hF.1 hF.2.1 hF.K hP.1 (a - 18) 3 (by rw [z_w_get u1 h1, z_en_4 e]) rfl rfl hdg kk
  · obtain ⟨u1, u2⟩ := z_kd_up e (by omega)
    rw [hz (by omega)] at kk
    rw [z_tv_hi u1]
    exact va_alen hF.1 hF.2.1 hF.K hP.1 (a - 18) 4 (by rw [z_w_get u1 h1, z_en_5 e]) rfl rfl hdg kk
  · obtain ⟨u1, u2⟩ := z_kd_6 e
    rw [hz (by omega)] at kk
    rw [z_tv_lo (by omega)]
    exact va_tlen hF.1 hF.2.1 (hF.2.2.2.2.1.2.2.2.1 a u1 u2).2 hS rfl hdg kk
  · obtain ⟨u1, u2, u3, u4⟩ := z_kd_7 e
    have hT := ((hF.2.2.2.2.1.2.2.2.2.2.2.1).1 (a - 12) (by omega)).2.2.2
    dsimp only at hT
    rw [show 12 + (a - 12) = a by omega] at hT
    rw [hz (by omega), u3] at kk
    rw [z_tv_lo (by omega)]
    exact va_tlen hF.1 hF.2.1 hT hS rfl hdg kk
  · have e0 := z_kd_9 e
    subst e0
    have e3 : z_len M 0 = (g 100000).toNatClampNeg := by rw [← hP.2.2.2.2]; rfl
    rw [e3] at kk
    rw [z_tv_lo (by omega)]
    exact va_tlen hF.1 hF.2.1 hF.2.2.2.2.1.2.2.2.2.2.2.2.2 hS rfl hdg kk
theorem zs_obj (hF : z_Fr D AC xa sv bs g y p l e R s m args below meth c) {a ix : Nat} (hdg : decode (z_by y) pc = .ok (.invokespecial ix, 3)) (ht : (z_owL.getD y 0, ix) ∈ z_oT) (ha : 18 ≤ a) (hr : r.length ≤ 4) (k : z_Kk D AC xa sv bs g p l e R s m args below meth c Q cn sn (pc + 3) L r M) : z_Kk D AC xa sv bs g p l e R s m args below meth c Q cn sn pc L (.ref a :: r) M := by
  intro H locs ls hP hS hL hn
  rw [List.map_cons, z_tv_hi ha]
  have hrm := z_room_ok y hF.2.2.2.2.2.2.2.2.2
  have hsum := z_cats (xa := xa) (sv := sv) (bs := bs) hr
  exact W.objInit hF.1 hF.2.1 hF.2.2.2.1 (hF.tw (z_oT_ok (z_owL.getD y 0, ix) ht) rfl _) (hF.tw zw_oi rfl _) (hF.tw zw_oc rfl _) rfl hn rfl hdg (Nat.le_trans hrm.1 hF.2.2.2.2.2.2.1) (by
    have : 60 ≤ R.locals := Nat.le_trans hrm.2 hF.2.2.2.2.2.2.2.1
    show 2 * 0 + _ + 12 ≤ _
    omega) (k H locs ls hP hS hL hn)
theorem z_min_eq (x z : Int32) : (if x < z then x else z) = if z < x then z else x := by
  by_cases h1 : x < z
  · have h2 : ¬ z < x := by rw [Int32.lt_iff_toInt_lt] at h1 ⊢; omega
    rw [if_pos h1, if_neg h2]
  · by_cases h2 : z < x
    · rw [if_neg h1, if_pos h2]
    · rw [if_neg h1, if_neg h2]
      rw [Int32.lt_iff_toInt_lt] at h1 h2
      exact Int32.toInt_inj.mp (by omega)
theorem zs_max (hF : z_Fr D AC xa sv bs g y p l e R s m args below meth c) {ix : Nat} {x z : Int32} (hdg : decode (z_by y) pc = .ok (.invokestatic ix, 3)) (ht : (z_owL.getD y 0, ix) ∈ z_xT) (hr : r.length ≤ 4) (hrm : cn ≤ R.cells ∧ sn ≤ R.slots) (k : z_Kk D AC xa sv bs g p l e R s m args below meth c Q cn sn (pc + 3) L (.int (if x < z then z else x) :: r) M) : z_Kk D AC xa sv bs g p l e R s m args below meth c Q cn sn pc L (.int z :: .int x :: r) M := by
  intro H locs ls hP hS hL hn
  have h60 := z_room_ok y hF.2.2.2.2.2.2.2.2.2
  have hsum := z_cats (xa := xa) (sv := sv) (bs := bs) hr
  have : 60 ≤ R.locals := Nat.le_trans h60.2 hF.2.2.2.2.2.2.2.1
  have kk := k H locs ls hP hS hL hn
  exact va_mmax hF.1 hF.2.1 hn.symm hF.2.2.2.1 (hF.tw (z_xT_ok (z_owL.getD y 0, ix) ht) rfl _) (hF.tw zw_xs rfl _) (hF.tw zw_mi rfl _) (hF.tw zw_xc rfl _) (Nat.le_trans h60.1 hF.2.2.2.2.2.2.1) (by omega) hrm.1 hrm.2 hdg kk
theorem zs_min (hF : z_Fr D AC xa sv bs g y p l e R s m args below meth c) {ix : Nat} {x z : Int32} (hdg : decode (z_by y) pc = .ok (.invokestatic ix, 3)) (ht : (z_owL.getD y 0, ix) ∈ z_nT) (hr : r.length ≤ 4) (hrm : cn ≤ R.cells ∧ sn ≤ R.slots) (k : z_Kk D AC xa sv bs g p l e R s m args below meth c Q cn sn (pc + 3) L (.int (if z < x then z else x) :: r) M) : z_Kk D AC xa sv bs g p l e R s m args below meth c Q cn sn pc L (.int z :: .int x :: r) M := by
  intro H locs ls hP hS hL hn
  have h60 := z_room_ok y hF.2.2.2.2.2.2.2.2.2
  have hsum := z_cats (xa := xa) (sv := sv) (bs := bs) hr
  have : 60 ≤ R.locals := Nat.le_trans h60.2 hF.2.2.2.2.2.2.2.1
  have kk := k H locs ls hP hS hL hn
  exact va_mmin hF.1 hF.2.1 hn.symm hF.2.2.2.1 (hF.tw (z_nT_ok (z_owL.getD y 0, ix) ht) rfl _) (hF.tw zw_ns rfl _) (hF.tw zw_mi rfl _) (hF.tw zw_nc rfl _) (Nat.le_trans h60.1 hF.2.2.2.2.2.2.1) (by omega) hrm.1 hrm.2 hdg kk
/-- the memory with one more object, all zeros -/
def z_mk (M : Mm) : Mm := (M.1 + 1, u0 M.2.1 M.1 0, u0 M.2.2.1 M.1 0, u0 M.2.2.2 M.1 none)
theorem z_mk_P {H H1 : Heap} (hP : z_P D AC xa sv bs g M H) (hk : 1 ≤ z_kd M.1) (hz : H1.size = H.size + 1) (ho : ∀ q, q < H.size → H1[q]? = H[q]?) (he : va_at D z_cl (bs + (M.1 - 18), z_en AC xa sv bs (z_mk M) M.1) H1) : z_P D AC xa sv bs g (z_mk M) H1 := by
  have h151 : M.1 < 151 := by
    rcases Nat.lt_or_ge M.1 151 with q | q
    · exact q
    · rw [z_kd_far q] at hk; omega
  have hsz := hP.2.1 h151
  refine ⟨?_, fun _ => by rw [hz, hsz]; show _ = bs + (M.1 + 1 - 18); have := hP.2.2.1; omega, by have := hP.2.2.1; show 18 ≤ M.1 + 1; omega, by show M.1 + 1 ≤ 151; omega, ?_⟩
  · rw [z_w_push (M' := z_mk M) hP.2.2.1 rfl (fun b hb => z_en_same (u0_ne hb) (u0_ne hb) (u0_ne hb))]
    refine (hP.1.kept fun k q hk => ho q.1 ((hP.1 k q hk).lt)).app (fun k q hk => ?_)
    have hk1 : k < 1 := (List.getElem?_eq_some_iff.mp hk).1
    rw [show k = 0 by omega] at hk
    cases hk
    exact he
  · rw [← hP.2.2.2.2]
    exact u0_ne (by have := hP.2.2.1; omega)
theorem z_S_push {H0 H H1 : Heap} {locs : List Loc} (hS : va_S (z_A bs) H0 H locs) (hz : H1.size = H.size + 1) (ho : ∀ q, q < H.size → H1[q]? = H[q]?) : va_S (z_A bs) H0 H1 locs := ⟨Nat.le_trans hS.1 (by omega), fun x h1 h2 => (ho x (Nat.lt_of_lt_of_le h1 hS.1)).trans (hS.2.1 x h1 h2), hS.2.2⟩
theorem z_fv_new {F : Nat} (hF : F < 105) : defaultValue (z_yt (z_fk F - 10) (F - z_fbL.getD (z_fk F - 10) 0)) = z_fv xa sv bs (z_mk M) M.1 F := by
  unfold z_fv
  have e1 : (z_mk M).2.1 M.1 = fun _ => 0 := u0_at
  have e2 : (z_mk M).2.2.1 M.1 = fun _ => 0 := u0_at
  have e3 : (z_mk M).2.2.2 M.1 = fun _ => none := u0_at
  rw [e1, e2, e3]
  by_cases h0 : z_ft F = 0
  · rw [h0]
    by_cases hz : z_fzL.getD F 0 = 1
    · rw [z_ft_boo F hF h0 hz]; rfl
    · rw [z_ft_int F hF h0 hz]; rfl
  · by_cases h1 : z_ft F = 1
    · rw [h1, z_ft_lon F hF h1]; rfl
    · have h3 := (z_isR_nar (z_ft_ref F hF h0 h1) none).2.2
      rw [h3]
      split
      · rename_i q; exact absurd q h0
      · rename_i q; exact absurd q h1
      · rfl
theorem z_fd_all : ∀ ci, ci < 11 → ∀ k, k < (z_cls ci).2.2 → z_fbL.getD ci 0 + k < 105 ∧ z_fk (z_fbL.getD ci 0 + k) = 10 + ci := by decide +kernel
theorem zs_new (hF : z_Fr D AC xa sv bs g y p l e R s m args below meth c) {ci ix : Nat} (hdg : decode (z_by y) pc = .ok (.new ix, 3)) (ht : (z_owL.getD y 0, ix, ci) ∈ z_cT) (hk : z_kd M.1 = 10 + ci) (hrm : cn + 1 ≤ R.cells ∧ sn + z_sz M.1 ≤ R.slots) (k : z_Kk D AC xa sv bs g p l e R s m args below meth c Q (cn + 1) (sn + z_sz M.1) (pc + 3) L (.ref M.1 :: S) (z_mk M)) : z_Kk D AC xa sv bs g p l e R s m args below meth c Q cn sn pc L S M := by
  intro H locs ls hP hS hL hn
  have hci := (z_cT_ok (z_owL.getD y 0, ix, ci) ht).2
  have hc := z_cls_ok ci hci
  have h151 : M.1 < 151 := by
    rcases Nat.lt_or_ge M.1 151 with q | q
    · exact q
    · rw [z_kd_far q] at hk; omega
  have hsz := hP.2.1 h151
  have hsl : z_sz M.1 = (z_cls ci).2.2 := by rw [z_sz_obj M.1 h151 (by omega) (by rw [hk]; have : ci < 11 := hci; omega), hk, show 10 + ci - 10 = ci by omega]
  rw [hsl] at hrm k
  have hKn := hF.K.1 ci _ hc.1
  refine W.newcK hF.1 hF.2.1 hF.2.2.2.1 (hF.tw (z_cT_ok (z_owL.getD y 0, ix, ci) ht).1 rfl _) (hF.tw hc.2.2.2.2.1 rfl _) (hF.tw hc.2.2.2.2.2 rfl _) rfl hdg hrm.1 hrm.2 hKn.2.1 (h := bs + (M.1 - 18)) hsz fun H1 kC hkC e1 z1 o1 => ?_
  have hP1 : z_P D AC xa sv bs g (z_mk M) H1 := by
    refine z_mk_P hP (by omega) (by rw [z1, hsz]) (by rw [hsz]; exact o1) ?_
    rw [z_en_obj hk]
    refine ⟨_, hc.1, (u_born (z_yt ci) (hF.2.2.2.2.1.1.on (args := args)) (z_uws_tw hci) hKn hkC e1 hc.2.2.1).to fun j hj => ?_⟩
    show _ = vp_V _ j
    unfold vp_V
    rw [List.getD_eq_getElem?_getD, List.getElem?_map, List.getElem?_range hj, Option.map_some, Option.getD_some]
    obtain ⟨f1, f2⟩ := z_fd_all ci hci j hj
    have := z_fv_new (xa := xa) (sv := sv) (bs := bs) (M := M) f1
    rw [f2, show 10 + ci - 10 = ci by omega, show z_fbL.getD ci 0 + j - z_fbL.getD ci 0 = j by omega] at this
    exact this
  have kk := k H1 locs ls hP1 (z_S_push hS (by rw [z1, hsz]) (by rw [hsz]; exact o1)) hL hn
  rw [List.map_cons, z_tv_hi hP.2.2.1] at kk
  exact kk
theorem zs_newa_int (hF : z_Fr D AC xa sv bs g y p l e R s m args below meth c) {x : Int32} (hdg : decode (z_by y) pc = .ok (.newarray .int, 2)) (hk : z_kd M.1 = 1) (hx : ¬ x < 0) (hl : x.toNatClampNeg = z_al M.1) (hrm : cn + 1 ≤ R.cells ∧ sn + z_sz M.1 ≤ R.slots) (k : z_Kk D AC xa sv bs g p l e R s m args below meth c Q (cn + 1) (sn + z_sz M.1) (pc + 2) L (.ref M.1 :: r) (z_mk M)) : z_Kk D AC xa sv bs g p l e R s m args below meth c Q cn sn pc L (.int x :: r) M := by
  intro H locs ls hP hS hL hn
  have h151 : M.1 < 151 := by
    rcases Nat.lt_or_ge M.1 151 with q | q
    · exact q
    · rw [z_kd_far q] at hk; omega
  have hsz := hP.2.1 h151
  have hsl : z_sz M.1 = z_al M.1 := z_sz_arr M.1 h151 (by omega) (by omega)
  rw [hsl] at hrm k
  have hsm := z_al_small M.1
  rw [List.map_cons]
  refine va_newaK hF.1 hF.2.1 (atype := .int) (hF.tw zw_aint rfl _) rfl hdg rfl hx hl (by show z_al M.1 * 4 ≤ 536870912; omega) hrm.1 hrm.2 (h := bs + (M.1 - 18)) hsz fun H1 cA e1 z1 o1 hAr hNm => ?_
  have hcA : cA = AC 0 := Option.some.inj (hNm.symm.trans (hF.K.2 0 _ rfl).2)
  subst hcA
  have hP1 : z_P D AC xa sv bs g (z_mk M) H1 := by
    refine z_mk_P hP (by omega) (by rw [z1, hsz]) (by rw [hsz]; exact o1) ?_
    rw [z_en_1 hk]
    show H1[_]? = some (vp_cell _ _)
    rw [e1]
    rw [show (z_mk M).2.1 M.1 = fun _ => 0 from u0_at]
    rfl
  have kk := k H1 locs ls hP1 (z_S_push hS (by rw [z1, hsz]) (by rw [hsz]; exact o1)) hL hn
  rw [List.map_cons, z_tv_hi hP.2.2.1] at kk
  exact kk
theorem zs_newa_boolean (hF : z_Fr D AC xa sv bs g y p l e R s m args below meth c) {x : Int32} (hdg : decode (z_by y) pc = .ok (.newarray .boolean, 2)) (hk : z_kd M.1 = 2) (hx : ¬ x < 0) (hl : x.toNatClampNeg = z_al M.1) (hrm : cn + 1 ≤ R.cells ∧ sn + z_sz M.1 ≤ R.slots) (k : z_Kk D AC xa sv bs g p l e R s m args below meth c Q (cn + 1) (sn + z_sz M.1) (pc + 2) L (.ref M.1 :: r) (z_mk M)) : z_Kk D AC xa sv bs g p l e R s m args below meth c Q cn sn pc L (.int x :: r) M := by
  intro H locs ls hP hS hL hn
  have h151 : M.1 < 151 := by
    rcases Nat.lt_or_ge M.1 151 with q | q
    · exact q
    · rw [z_kd_far q] at hk; omega
  have hsz := hP.2.1 h151
  have hsl : z_sz M.1 = z_al M.1 := z_sz_arr M.1 h151 (by omega) (by omega)
  rw [hsl] at hrm k
  have hsm := z_al_small M.1
  rw [List.map_cons]
  refine va_newaK hF.1 hF.2.1 (atype := .boolean) (hF.tw zw_aboolean rfl _) rfl hdg rfl hx hl (by show z_al M.1 * 1 ≤ 536870912; omega) hrm.1 hrm.2 (h := bs + (M.1 - 18)) hsz fun H1 cA e1 z1 o1 hAr hNm => ?_
  have hcA : cA = AC 1 := Option.some.inj (hNm.symm.trans (hF.K.2 1 _ rfl).2)
  subst hcA
  have hP1 : z_P D AC xa sv bs g (z_mk M) H1 := by
    refine z_mk_P hP (by omega) (by rw [z1, hsz]) (by rw [hsz]; exact o1) ?_
    rw [z_en_2 hk]
    show H1[_]? = some (vp_cell _ _)
    rw [e1]
    rw [show (z_mk M).2.1 M.1 = fun _ => 0 from u0_at]
    rfl
  have kk := k H1 locs ls hP1 (z_S_push hS (by rw [z1, hsz]) (by rw [hsz]; exact o1)) hL hn
  rw [List.map_cons, z_tv_hi hP.2.2.1] at kk
  exact kk
theorem zs_newa_long (hF : z_Fr D AC xa sv bs g y p l e R s m args below meth c) {x : Int32} (hdg : decode (z_by y) pc = .ok (.newarray .long, 2)) (hk : z_kd M.1 = 3) (hx : ¬ x < 0) (hl : x.toNatClampNeg = z_al M.1) (hrm : cn + 1 ≤ R.cells ∧ sn + z_sz M.1 ≤ R.slots) (k : z_Kk D AC xa sv bs g p l e R s m args below meth c Q (cn + 1) (sn + z_sz M.1) (pc + 2) L (.ref M.1 :: r) (z_mk M)) : z_Kk D AC xa sv bs g p l e R s m args below meth c Q cn sn pc L (.int x :: r) M := by
  intro H locs ls hP hS hL hn
  have h151 : M.1 < 151 := by
    rcases Nat.lt_or_ge M.1 151 with q | q
    · exact q
    · rw [z_kd_far q] at hk; omega
  have hsz := hP.2.1 h151
  have hsl : z_sz M.1 = z_al M.1 := z_sz_arr M.1 h151 (by omega) (by omega)
  rw [hsl] at hrm k
  have hsm := z_al_small M.1
  rw [List.map_cons]
  refine va_newaK hF.1 hF.2.1 (atype := .long) (hF.tw zw_along rfl _) rfl hdg rfl hx hl (by show z_al M.1 * 8 ≤ 536870912; omega) hrm.1 hrm.2 (h := bs + (M.1 - 18)) hsz fun H1 cA e1 z1 o1 hAr hNm => ?_
  have hcA : cA = AC 2 := Option.some.inj (hNm.symm.trans (hF.K.2 2 _ rfl).2)
  subst hcA
  have hP1 : z_P D AC xa sv bs g (z_mk M) H1 := by
    refine z_mk_P hP (by omega) (by rw [z1, hsz]) (by rw [hsz]; exact o1) ?_
    rw [z_en_3 hk]
    show H1[_]? = some (vp_cell _ _)
    rw [e1]
    rw [show (z_mk M).2.2.1 M.1 = fun _ => 0 from u0_at]
    rfl
  have kk := k H1 locs ls hP1 (z_S_push hS (by rw [z1, hsz]) (by rw [hsz]; exact o1)) hL hn
  rw [List.map_cons, z_tv_hi hP.2.2.1] at kk
  exact kk
theorem zs_anew_4 (hF : z_Fr D AC xa sv bs g y p l e R s m args below meth c) {x : Int32} {ix : Nat} (hdg : decode (z_by y) pc = .ok (.anewarray ix, 3)) (ht : (z_owL.getD y 0, ix, 4) ∈ z_aT) (hk : z_kd M.1 = 4) (hx : ¬ x < 0) (hl : x.toNatClampNeg = z_al M.1) (hrm : cn + 1 ≤ R.cells ∧ sn + z_sz M.1 ≤ R.slots) (k : z_Kk D AC xa sv bs g p l e R s m args below meth c Q (cn + 1) (sn + z_sz M.1) (pc + 3) L (.ref M.1 :: r) (z_mk M)) : z_Kk D AC xa sv bs g p l e R s m args below meth c Q cn sn pc L (.int x :: r) M := by
  intro H locs ls hP hS hL hn
  have h151 : M.1 < 151 := by
    rcases Nat.lt_or_ge M.1 151 with q | q
    · exact q
    · rw [z_kd_far q] at hk; omega
  have hsz := hP.2.1 h151
  have hsl : z_sz M.1 = z_al M.1 := z_sz_arr M.1 h151 (by omega) (by omega)
  rw [hsl, ← hl] at hrm k
  have hsm := z_al_small M.1
  rw [← hl] at hsm
  rw [List.map_cons]
  refine W.anew hF.1 hF.2.1 hF.2.2.2.1 (C := "CookHands$Dish") (hF.tw (z_aT_ok (z_owL.getD y 0, ix, 4) ht).1 rfl _) (va_AO.use hF.2.2.2.2.1.2.2.1.1) rfl hdg rfl hx (by omega) hrm.1 hrm.2 fun cA kA comp f1 f2 f3 f4 => ?_
  have hcA : cA = AC 3 := Option.some.inj (f1.symm.trans (by obtain ⟨_, _, _, _, _, q⟩ := (hF.K.2 3 _ rfl).2; exact q))
  subst hcA
  generalize hH1 : H.push ({ cls := AC 3, slots := Array.replicate x.toNatClampNeg .null, vm := .none } : Cell) = H1
  have z1 : H1.size = H.size + 1 := by rw [← hH1, Array.size_push]
  have e1 : H1[H.size]? = some (arrV (AC 3) x.toNatClampNeg (fun _ => .null)) := by rw [← hH1, Array.getElem?_push_size, ← arrV_new]
  have o1 : ∀ q : Nat, q < H.size → H1[q]? = H[q]? := fun q hq => by rw [← hH1, Array.getElem?_push, if_neg (Nat.ne_of_lt hq)]
  have hP1 : z_P D AC xa sv bs g (z_mk M) H1 := by
    refine z_mk_P hP (by omega) z1 o1 ?_
    rw [z_en_4 hk]
    show H1[_]? = some (vp_cell _ _)
    rw [← hsz, e1, hl]
    rw [show (z_mk M).2.2.2 M.1 = fun _ => none from u0_at]
    rfl
  have kk := k H1 locs ls hP1 (z_S_push hS z1 o1) hL hn
  rw [List.map_cons, z_tv_hi hP.2.2.1, ← hsz] at kk
  exact kk
theorem zs_anew_5 (hF : z_Fr D AC xa sv bs g y p l e R s m args below meth c) {x : Int32} {ix : Nat} (hdg : decode (z_by y) pc = .ok (.anewarray ix, 3)) (ht : (z_owL.getD y 0, ix, 5) ∈ z_aT) (hk : z_kd M.1 = 5) (hx : ¬ x < 0) (hl : x.toNatClampNeg = z_al M.1) (hrm : cn + 1 ≤ R.cells ∧ sn + z_sz M.1 ≤ R.slots) (k : z_Kk D AC xa sv bs g p l e R s m args below meth c Q (cn + 1) (sn + z_sz M.1) (pc + 3) L (.ref M.1 :: r) (z_mk M)) : z_Kk D AC xa sv bs g p l e R s m args below meth c Q cn sn pc L (.int x :: r) M := by
  intro H locs ls hP hS hL hn
  have h151 : M.1 < 151 := by
    rcases Nat.lt_or_ge M.1 151 with q | q
    · exact q
    · rw [z_kd_far q] at hk; omega
  have hsz := hP.2.1 h151
  have hsl : z_sz M.1 = z_al M.1 := z_sz_arr M.1 h151 (by omega) (by omega)
  rw [hsl, ← hl] at hrm k
  have hsm := z_al_small M.1
  rw [← hl] at hsm
  rw [List.map_cons]
  refine W.anew hF.1 hF.2.1 hF.2.2.2.1 (C := "CookHands$Kitchen") (hF.tw (z_aT_ok (z_owL.getD y 0, ix, 5) ht).1 rfl _) (va_AO.use hF.2.2.2.2.1.2.2.1.2) rfl hdg rfl hx (by omega) hrm.1 hrm.2 fun cA kA comp f1 f2 f3 f4 => ?_
  have hcA : cA = AC 4 := Option.some.inj (f1.symm.trans (by obtain ⟨_, _, _, _, _, q⟩ := (hF.K.2 4 _ rfl).2; exact q))
  subst hcA
  generalize hH1 : H.push ({ cls := AC 4, slots := Array.replicate x.toNatClampNeg .null, vm := .none } : Cell) = H1
  have z1 : H1.size = H.size + 1 := by rw [← hH1, Array.size_push]
  have e1 : H1[H.size]? = some (arrV (AC 4) x.toNatClampNeg (fun _ => .null)) := by rw [← hH1, Array.getElem?_push_size, ← arrV_new]
  have o1 : ∀ q : Nat, q < H.size → H1[q]? = H[q]? := fun q hq => by rw [← hH1, Array.getElem?_push, if_neg (Nat.ne_of_lt hq)]
  have hP1 : z_P D AC xa sv bs g (z_mk M) H1 := by
    refine z_mk_P hP (by omega) z1 o1 ?_
    rw [z_en_5 hk]
    show H1[_]? = some (vp_cell _ _)
    rw [← hsz, e1, hl]
    rw [show (z_mk M).2.2.2 M.1 = fun _ => none from u0_at]
    rfl
  have kk := k H1 locs ls hP1 (z_S_push hS z1 o1) hL hn
  rw [List.map_cons, z_tv_hi hP.2.2.1, ← hsz] at kk
  exact kk
theorem zs_tsw (hF : z_Fr D AC xa sv bs g y p l e R s m args below meth c) {d lo hi2 : Int} {os : Array Int} {x : Int32} {t : Nat} {o rt : Nat} {ini : Bool} (hdg : decode (z_by y) pc = .ok (raw, len)) (hi : okI o rt ini pc raw len (.tableswitch d lo hi2 os) = true) (ht : z_tab d lo hi2 os x = some t) (k : z_Kk D AC xa sv bs g p l e R s m args below meth c Q cn sn t L r M) : z_Kk D AC xa sv bs g p l e R s m args below meth c Q cn sn pc L (.int x :: r) M := by
  obtain ⟨h1, h3⟩ := zi_and hi
  obtain ⟨h1, h2⟩ := zi_and h1
  have h1 := zi_dec h1
  have h2 := zi_dec h2
  rw [h1] at hdg
  unfold z_tab at ht
  intro H locs ls hP hS hL hn
  split at ht
  · rename_i hc
    cases ht
    exact lv_tableOut hF.1 hF.2.1 hdg hc (by omega) (k H locs ls hP hS hL hn)
  · rename_i hc
    cases ho : os[(x.toInt - lo).toNat]? with
    | none => rw [ho] at ht; cases ht
    | some off =>
      rw [ho] at ht
      cases ht
      have h4 : 0 ≤ off := zi_dec (List.all_eq_true.mp h3 off (by
        rw [← Array.getElem?_toList] at ho
        exact List.mem_of_getElem? ho))
      exact lv_tableIn hF.1 hF.2.1 hdg (fun q => hc (Or.inl q)) (fun q => hc (Or.inr q)) (by rw [Array.getElem?_map, ho]; rfl) (by show (pc : Int) + (off - (pc : Int)) = _; omega) (k H locs ls hP hS hL hn)
theorem z_off_map (pc : Int) (d v : Int) : ∀ l : List (Int × Int), Op.lookupswitch.offset (l.map fun q => (q.1, q.2 - pc)) (d - pc) v = Op.lookupswitch.offset l d v - pc
  | [] => rfl
  | (a, b) :: l => by
    rw [List.map_cons, Op.lookupswitch.offset_cons, Op.lookupswitch.offset_cons, z_off_map pc d v l]
    split <;> rfl
theorem z_off_pos (d v : Int) (hd : 0 ≤ d) : ∀ l : List (Int × Int), (∀ q ∈ l, 0 ≤ q.2) → 0 ≤ Op.lookupswitch.offset l d v
  | [], _ => hd
  | (a, b) :: l, h => by
    rw [Op.lookupswitch.offset_cons]
    split
    · exact h (a, b) List.mem_cons_self
    · exact z_off_pos d v hd l (fun q hq => h q (List.mem_cons_of_mem _ hq))
theorem zs_lsw (hF : z_Fr D AC xa sv bs g y p l e R s m args below meth c) {d : Int} {ps : Array (Int × Int)} {x : Int32} {o rt : Nat} {ini : Bool} (hdg : decode (z_by y) pc = .ok (raw, len)) (hi : okI o rt ini pc raw len (.lookupswitch d ps) = true) (k : z_Kk D AC xa sv bs g p l e R s m args below meth c Q cn sn (Op.lookupswitch.offset ps.toList d x.toInt).toNat L r M) : z_Kk D AC xa sv bs g p l e R s m args below meth c Q cn sn pc L (.int x :: r) M := by
  obtain ⟨h1, h4⟩ := zi_and hi
  obtain ⟨h1, h3⟩ := zi_and h1
  obtain ⟨h1, h2⟩ := zi_and h1
  have h1 := zi_dec h1
  have h2 := zi_dec h2
  rw [h1] at hdg
  have hp := z_off_pos d x.toInt h2 ps.toList (fun q hq => zi_dec (List.all_eq_true.mp h3 q hq))
  intro H locs ls hP hS hL hn
  exact lv_lookup hF.1 hF.2.1 hdg h4 rfl (by rw [Array.toList_map, z_off_map]; omega) (k H locs ls hP hS hL hn)
end

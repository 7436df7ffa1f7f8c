/-! A SMALL MACHINE: the part of the JVM that these classes use, over a memory of numbered objects; pure, so that methods are reasoned about without the real machine. What it does the real machine does: part 'sim'. -/
abbrev Mm : Type := Nat × (Nat → Nat → Int32) × (Nat → Nat → Int64) × (Nat → Nat → Option Nat)
abbrev Lo : Type := List (Option Value)
/-- next, or an answer, or a call: method, arguments, locals, rest of the stack -/
abbrev Zr : Type := (Nat × Lo × List Value × Mm) ⊕ (Option Value) ⊕ (Nat × List Value × Lo × List Value)
def u2 {α : Type} (f : Nat → Nat → α) (a k : Nat) (x : α) : Nat → Nat → α := fun b j => if b = a then (if j = k then x else f b j) else f b j
def u0 {α : Type} (f : Nat → Nat → α) (a : Nat) (x : α) : Nat → Nat → α := fun b j => if b = a then x else f b j
def z_len (M : Mm) (a : Nat) : Nat := cond (Nat.beq a 0) (M.2.1 0 100000).toNatClampNeg (z_lnL.getD a 0)
/-- what an int array holds: those that nobody writes are written out -/
def z_ia (M : Mm) (a i : Nat) : Int32 := cond (Nat.beq (z_kd a) 6 || Nat.beq (z_kd a) 7) ((z_xfL.getD a []).getD i 0) (M.2.1 a i)
def z_ok (nx a k : Nat) : Bool := Nat.blt a nx && Nat.beq (z_kd a) k
def z_inb (i : Int32) (n : Nat) : Bool := !(decide (i < 0)) && Nat.blt i.toNatClampNeg n
def z_b01 (x : Int32) : Bool := decide (x = 0) || decide (x = 1)
def z_go (pc : Nat) (L : Lo) (S : List Value) (M : Mm) : Option Zr := some (.inl (pc, L, S, M))
def z_if (b : Bool) (z : Option Zr) : Option Zr := cond b z none
def z_1i (S : List Value) (k : Int32 → List Value → Option Zr) : Option Zr := match S with
  | .int x :: r => k x r
  | _ => none
def z_2i (S : List Value) (k : Int32 → Int32 → List Value → Option Zr) : Option Zr := match S with
  | .int y :: .int x :: r => k x y r
  | _ => none
def z_1l (S : List Value) (k : Int64 → List Value → Option Zr) : Option Zr := match S with
  | .long x :: r => k x r
  | _ => none
def z_2l (S : List Value) (k : Int64 → Int64 → List Value → Option Zr) : Option Zr := match S with
  | .long y :: .long x :: r => k x y r
  | _ => none
def z_li (S : List Value) (k : Int64 → Int32 → List Value → Option Zr) : Option Zr := match S with
  | .int y :: .long x :: r => k x y r
  | _ => none
def z_1r (S : List Value) (k : Nat → List Value → Option Zr) : Option Zr := match S with
  | .ref a :: r => k a r
  | _ => none
/-- a ref under an int -/
def z_ri (S : List Value) (k : Nat → Int32 → List Value → Option Zr) : Option Zr := match S with
  | .int y :: .ref a :: r => k a y r
  | _ => none
def z_rl (S : List Value) (k : Nat → Int64 → List Value → Option Zr) : Option Zr := match S with
  | .long y :: .ref a :: r => k a y r
  | _ => none
def z_rr (S : List Value) (k : Nat → Nat → List Value → Option Zr) : Option Zr := match S with
  | .ref y :: .ref a :: r => k a y r
  | _ => none
/-- array, index, value -/
def z_aii (S : List Value) (k : Nat → Int32 → Int32 → List Value → Option Zr) : Option Zr := match S with
  | .int x :: .int i :: .ref a :: r => k a i x r
  | _ => none
def z_ail (S : List Value) (k : Nat → Int32 → Int64 → List Value → Option Zr) : Option Zr := match S with
  | .long x :: .int i :: .ref a :: r => k a i x r
  | _ => none
def z_air (S : List Value) (k : Nat → Int32 → Nat → List Value → Option Zr) : Option Zr := match S with
  | .ref x :: .int i :: .ref a :: r => k a i x r
  | _ => none
def z_cpy (S : List Value) (k : Nat → Int32 → Nat → Int32 → Int32 → List Value → Option Zr) : Option Zr := match S with
  | .int n :: .int dp :: .ref d :: .int sp :: .ref a :: r => k a sp d dp n r
  | _ => none
def z_lget (L : Lo) (i : Nat) : Option Value := (L[i]?).bind id
def z_cat2 (v : Value) : Bool := Nat.beq v.category 2
/-- how many words arguments take -/
def z_wd : List Value → Nat
  | [] => 0
  | v :: vs => cond (z_cat2 v) (z_wd vs + 2) (z_wd vs + 1)
def z_clr (L : Lo) (i : Nat) : Lo := match z_lget L i with
  | some v => cond (z_cat2 v) (L.set i none) L
  | none => L
/-- storing a value of one word at i: a long that ends there is gone -/
def z_put1 (L : Lo) (i : Nat) (v : Value) : Lo := match i with
  | 0 => L.set 0 (some v)
  | j + 1 => (z_clr L j).set (j + 1) (some v)
def z_put2 (L : Lo) (i : Nat) (v : Value) : Lo := (z_put1 L i v).set (i + 1) none
def z_gi (L : Lo) (i : Nat) (k : Int32 → Option Zr) : Option Zr := match z_lget L i with
  | some (.int x) => k x
  | _ => none
def z_gl (L : Lo) (i : Nat) (k : Int64 → Option Zr) : Option Zr := match z_lget L i with
  | some (.long x) => k x
  | _ => none
def z_gr (L : Lo) (i : Nat) (k : Nat → Option Zr) : Option Zr := match z_lget L i with
  | some (.ref x) => k x
  | _ => none
def z_or (o : Option Nat) (k : Nat → Option Zr) : Option Zr := match o with
  | some a => k a
  | none => none
def z_cmp (c : ClassFile.Cond) (x y : Int32) : Bool := match c with
  | .eq => decide (x = y)
  | .ne => !decide (x = y)
  | .lt => decide (x < y)
  | .ge => decide (y ≤ x)
  | .gt => decide (y < x)
  | .le => decide (x ≤ y)
/-- the answers of small types are narrow -/
def z_nar (k : Nat) (x : Int32) : Bool := match k with
  | 0 => true
  | 1 => z_b01 x
  | 2 => decide (narrow .char (.int x) = .int x)
  | _ => decide (narrow .byte (.int x) = .int x)
/-- as many arguments as the method takes, off the stack -/
def z_args (n : Nat) (S : List Value) (k : List Value → List Value → Option Zr) : Option Zr := z_if (Nat.ble n S.length && Nat.ble (S.drop n).length 4) (k (S.take n).reverse (S.drop n))
def z_tab (d lo hi : Int) (os : Array Int) (x : Int32) : Option Nat := if x.toInt < lo ∨ hi < x.toInt then some d.toNat else (os[(x.toInt - lo).toNat]?).map Int.toNat
def z_tag : ClassFile.ArrayType → Nat
  | .int => 1
  | .boolean => 2
  | .long => 3
  | _ => 0
def z_at (k nx : Nat) (f : Nat → Option Zr) (a : Nat) : Option Zr := z_if (z_ok nx a k) (f a)
def z_ivs (j : Nat) (L : Lo) (as r : List Value) : Option Zr := z_if (Nat.ble (z_wd as) (z_ml j)) (some (.inr (.inr (j, as, L, r))))
def z_ivr (j : Nat) (L : Lo) (nx : Nat) (as r : List Value) : Option Zr := match as with
  | .ref a :: _ => z_if (Nat.ble (z_wd as) (z_ml j) && z_ok nx a (z_rk j)) (some (.inr (.inr (j, as, L, r))))
  | _ => none
def z_rti (k : Nat) (S : List Value) : Option Zr := match S with
  | [.int x] => z_if (z_nar k x) (some (.inr (.inl (some (.int x)))))
  | _ => none
def z_rtl (S : List Value) : Option Zr := match S with
  | [.long x] => some (.inr (.inl (some (.long x))))
  | _ => none
def z_rtr (S : List Value) : Option Zr := match S with
  | [.ref x] => some (.inr (.inl (some (.ref x))))
  | _ => none
def z_rtv (S : List Value) : Option Zr := match S with
  | [] => some (.inr (.inl none))
  | _ => none
def z_st (ins : Instr) (n pc : Nat) (L : Lo) (S : List Value) (M : Mm) : Option Zr := match ins with
  | .iconst z => z_go (pc + n) L (.int (Int32.ofInt z) :: S) M
  | .ldc2_w k => z_go (pc + n) L (.long (Int64.ofNat k) :: S) M
  | .ldc k => z_go (pc + n) L (.ref k :: S) M
  | .iload i => z_gi L i fun x => z_go (pc + n) L (.int x :: S) M
  | .lload i => z_gl L i fun x => z_go (pc + n) L (.long x :: S) M
  | .aload i => z_gr L i fun x => z_go (pc + n) L (.ref x :: S) M
  | .istore i => z_1i S fun x r => z_if (Nat.blt i L.length) (z_go (pc + n) (z_put1 L i (.int x)) r M)
  | .lstore i => z_1l S fun x r => z_if (Nat.blt (i + 1) L.length) (z_go (pc + n) (z_put2 L i (.long x)) r M)
  | .astore i => z_1r S fun x r => z_if (Nat.blt i L.length) (z_go (pc + n) (z_put1 L i (.ref x)) r M)
  | .iinc i z => z_gi L i fun x => z_if (Nat.blt i L.length) (z_go (pc + n) (z_put1 L i (.int (x + Int32.ofInt z))) S M)
  | .iadd => z_2i S fun x y r => z_go (pc + n) L (.int (x + y) :: r) M
  | .isub => z_2i S fun x y r => z_go (pc + n) L (.int (x - y) :: r) M
  | .imul => z_2i S fun x y r => z_go (pc + n) L (.int (x * y) :: r) M
  | .idiv => z_2i S fun x y r => z_if (!decide (y = 0)) (z_go (pc + n) L (.int (x / y) :: r) M)
  | .irem => z_2i S fun x y r => z_if (!decide (y = 0)) (z_go (pc + n) L (.int (x - x / y * y) :: r) M)
  | .iand => z_2i S fun x y r => z_go (pc + n) L (.int (x &&& y) :: r) M
  | .ior => z_2i S fun x y r => z_go (pc + n) L (.int (x ||| y) :: r) M
  | .ixor => z_2i S fun x y r => z_go (pc + n) L (.int (x ^^^ y) :: r) M
  | .ishl => z_2i S fun x y r => z_go (pc + n) L (.int (x <<< (y &&& 31)) :: r) M
  | .ishr => z_2i S fun x y r => z_go (pc + n) L (.int (x >>> (y &&& 31)) :: r) M
  | .iushr => z_2i S fun x y r => z_go (pc + n) L (.int (x.toUInt32 >>> (y.toUInt32 &&& Int32.toUInt32 31)).toInt32 :: r) M
  | .fadd => z_2i S fun x y r => z_if (Nat.ble r.length 4) (z_go (pc + n) L (.int (if x < y then y else x) :: r) M)
  | .fsub => z_2i S fun x y r => z_if (Nat.ble r.length 4) (z_go (pc + n) L (.int (if y < x then y else x) :: r) M)
  | .ladd => z_2l S fun x y r => z_go (pc + n) L (.long (x + y) :: r) M
  | .lsub => z_2l S fun x y r => z_go (pc + n) L (.long (x - y) :: r) M
  | .lmul => z_2l S fun x y r => z_go (pc + n) L (.long (x * y) :: r) M
  | .ldiv => z_2l S fun x y r => z_if (!decide (y = 0)) (z_go (pc + n) L (.long (x / y) :: r) M)
  | .lrem => z_2l S fun x y r => z_if (!decide (y = 0)) (z_go (pc + n) L (.long (x - x / y * y) :: r) M)
  | .land => z_2l S fun x y r => z_go (pc + n) L (.long (x &&& y) :: r) M
  | .lor => z_2l S fun x y r => z_go (pc + n) L (.long (x ||| y) :: r) M
  | .lshl => z_li S fun x y r => z_go (pc + n) L (.long (x <<< (y.toInt64 &&& 63)) :: r) M
  | .lshr => z_li S fun x y r => z_go (pc + n) L (.long (x >>> (y.toInt64 &&& 63)) :: r) M
  | .lcmp => z_2l S fun x y r => z_go (pc + n) L (.int (lg_cmp x y) :: r) M
  | .i2l => z_1i S fun x r => z_go (pc + n) L (.long x.toInt64 :: r) M
  | .l2i => z_1l S fun x r => z_go (pc + n) L (.int x.toInt32 :: r) M
  | .i2c => z_1i S fun x r => z_go (pc + n) L (.int (x.toUInt32 % 65536).toInt32 :: r) M
  | .dup => match S with
    | v :: r => z_if (Nat.beq v.category 1) (z_go (pc + n) L (v :: v :: r) M)
    | [] => none
  | .dup2 => match S with
    | v :: w :: r => z_if (Nat.beq v.category 1 && Nat.beq w.category 1) (z_go (pc + n) L (v :: w :: v :: w :: r) M)
    | _ => none
  | .pop => match S with
    | v :: r => z_if (Nat.beq v.category 1) (z_go (pc + n) L r M)
    | [] => none
  | .goto t => z_go t.toNat L S M
  | .ifCond c t => z_1i S fun x r => z_go (cond (z_cmp c x 0) t.toNat (pc + n)) L r M
  | .if_icmp c t => z_2i S fun x y r => z_go (cond (z_cmp c x y) t.toNat (pc + n)) L r M
  | .tableswitch d lo hi os => z_1i S fun x r => z_or (z_tab d lo hi os x) fun t => z_go t L r M
  | .lookupswitch d ps => z_1i S fun x r => z_go (Op.lookupswitch.offset ps.toList d x.toInt).toNat L r M
  | .arraylength => z_1r S fun a r => z_if (Nat.blt a M.1 && (Nat.ble 1 (z_kd a) && Nat.ble (z_kd a) 9 && !Nat.beq (z_kd a) 8)) (z_go (pc + n) L (.int (Int32.ofNat (z_len M a)) :: r) M)
  | .iaload => z_ri S fun a i r => z_if ((z_ok M.1 a 1 || z_ok M.1 a 6 || z_ok M.1 a 9) && z_inb i (z_len M a)) (z_go (pc + n) L (.int (z_ia M a i.toNatClampNeg) :: r) M)
  | .baload => z_ri S fun a i r => z_if ((z_ok M.1 a 2 || z_ok M.1 a 7) && z_inb i (z_len M a)) (z_go (pc + n) L (.int (z_ia M a i.toNatClampNeg) :: r) M)
  | .laload => z_ri S fun a i r => z_if (z_ok M.1 a 3 && z_inb i (z_len M a)) (z_go (pc + n) L (.long (M.2.2.1 a i.toNatClampNeg) :: r) M)
  | .aaload => z_ri S fun a i r => z_if ((z_ok M.1 a 4 || z_ok M.1 a 5) && z_inb i (z_len M a)) (z_or (M.2.2.2 a i.toNatClampNeg) fun b => z_go (pc + n) L (.ref b :: r) M)
  | .iastore => z_aii S fun a i x r => z_if (z_ok M.1 a 1 && z_inb i (z_len M a)) (z_go (pc + n) L r (M.1, u2 M.2.1 a i.toNatClampNeg x, M.2.2))
  | .bastore => z_aii S fun a i x r => z_if (z_ok M.1 a 2 && z_inb i (z_len M a) && z_b01 x) (z_go (pc + n) L r (M.1, u2 M.2.1 a i.toNatClampNeg x, M.2.2))
  | .lastore => z_ail S fun a i x r => z_if (z_ok M.1 a 3 && z_inb i (z_len M a)) (z_go (pc + n) L r (M.1, M.2.1, u2 M.2.2.1 a i.toNatClampNeg x, M.2.2.2))
  | .aastore => z_air S fun a i x r => z_if ((z_ok M.1 a 4 && z_ok M.1 x z_kDish || z_ok M.1 a 5 && z_ok M.1 x z_kKit) && z_inb i (z_len M a)) (z_go (pc + n) L r (M.1, M.2.1, M.2.2.1, u2 M.2.2.2 a i.toNatClampNeg (some x)))
  | .getfield F => z_1r S fun a r => z_if (z_ok M.1 a (z_fk F) && Nat.beq (z_ft F) 0) (z_go (pc + n) L (.int (M.2.1 a F) :: r) M)
  | .dload F => z_1r S fun a r => z_if (z_ok M.1 a (z_fk F) && Nat.beq (z_ft F) 1) (z_go (pc + n) L (.long (M.2.2.1 a F) :: r) M)
  | .fload F => z_1r S fun a r => z_if (z_ok M.1 a (z_fk F) && Nat.beq (z_ft F) 2) (z_or (M.2.2.2 a F) fun b => z_go (pc + n) L (.ref b :: r) M)
  | .putfield F => z_ri S fun a x r => z_if (z_ok M.1 a (z_fk F) && Nat.beq (z_ft F) 0 && (!Nat.beq (z_fzL.getD F 0) 1 || z_b01 x)) (z_go (pc + n) L r (M.1, u2 M.2.1 a F x, M.2.2))
  | .dstore F => z_rl S fun a x r => z_if (z_ok M.1 a (z_fk F) && Nat.beq (z_ft F) 1) (z_go (pc + n) L r (M.1, M.2.1, u2 M.2.2.1 a F x, M.2.2.2))
  | .fstore F => z_rr S fun a x r => z_if (z_ok M.1 a (z_fk F) && Nat.beq (z_ft F) 2) (z_go (pc + n) L r (M.1, M.2.1, M.2.2.1, u2 M.2.2.2 a F (some x)))
  | .checkcast _ => z_1r S fun a r => z_if (z_ok M.1 a 8) (z_go (pc + n) L (.ref (a + 5) :: r) M)
  | .instanceof _ => z_1r S fun a r => z_if (z_ok M.1 a 8) (z_go (pc + n) L (.int 0 :: r) M)
  | .new ci => z_if (Nat.beq (z_kd M.1) (10 + ci)) (z_go (pc + n) L (.ref M.1 :: S) (M.1 + 1, u0 M.2.1 M.1 0, u0 M.2.2.1 M.1 0, u0 M.2.2.2 M.1 none))
  | .newarray ty => z_1i S fun x r => z_if (Nat.beq (z_kd M.1) (z_tag ty) && Nat.ble 1 (z_tag ty) && !(decide (x < 0)) && Nat.beq x.toNatClampNeg (z_lnL.getD M.1 0)) (z_go (pc + n) L (.ref M.1 :: r) (M.1 + 1, u0 M.2.1 M.1 0, u0 M.2.2.1 M.1 0, u0 M.2.2.2 M.1 none))
  | .anewarray k => z_1i S fun x r => z_if (Nat.beq (z_kd M.1) k && (Nat.beq k 4 || Nat.beq k 5) && !(decide (x < 0)) && Nat.beq x.toNatClampNeg (z_lnL.getD M.1 0)) (z_go (pc + n) L (.ref M.1 :: r) (M.1 + 1, u0 M.2.1 M.1 0, u0 M.2.2.1 M.1 0, u0 M.2.2.2 M.1 none))
  | .athrow => z_1r S fun a r => z_if (Nat.ble r.length 4 && Nat.ble 18 a) (z_go (pc + n) L r M)
  | .monitorenter => z_cpy S fun a sp d dp m r => z_if (z_ok M.1 a 1 && z_ok M.1 d 1 && (!(decide (sp < 0)) && !(decide (dp < 0)) && !(decide (m < 0))) && (Nat.ble (sp.toNatClampNeg + m.toNatClampNeg) (z_len M a) && Nat.ble (dp.toNatClampNeg + m.toNatClampNeg) (z_len M d)) && Nat.ble r.length 4 && Nat.beq M.1 151)
      (z_go (pc + n) L r (M.1, (fun b j => if b = d then va_cpy (M.2.1 a) (M.2.1 d) sp.toNatClampNeg dp.toNatClampNeg m.toNatClampNeg j else M.2.1 b j), M.2.2))
  | .invokestatic j => z_args (z_na j) S (z_ivs j L)
  | .invokespecial j => z_args (z_na j) S (z_ivr j L M.1)
  | .invokevirtual j => z_args (z_na j) S (z_ivr j L M.1)
  | .ret k => z_rti k S
  | .lreturn => z_rtl S
  | .areturn => z_rtr S
  | .return_ => z_rtv S
  | _ => none
/-- the locals at a method's start -/
def z_ent (n : Nat) : List Value → Lo
  | [] => List.replicate n none
  | v :: vs => cond (z_cat2 v) (some v :: none :: z_ent (n - 2) vs) (some v :: z_ent (n - 1) vs)
def z_run : Nat → Nat → Nat → Lo → List Value → Mm → Option (Option Value × Mm)
  | 0, _, _, _, _, _ => none
  | n + 1, y, pc, L, S, M => match z_cd y pc with
    | none => none
    | some (ins, len) => match z_st ins len pc L S M with
      | none => none
      | some (.inl (pc', L', S', M')) => z_run n y pc' L' S' M'
      | some (.inr (.inl v)) => some (v, M)
      | some (.inr (.inr (j, as, L', S'))) => match z_run n j 0 (z_ent (z_ml j) as) [] M with
        | none => none
        | some (v, M') => z_run n y (pc + len) L' (v.toList ++ S') M'

/-! One instruction over plain numbers, and what it says of the walk. -/
def jop (ins : Instr) : Option (Int32 → Int32 → Int32) := match ins with
  | .iadd => some (fun x y => x + y)
  | .isub => some (fun x y => x - y)
  | .imul => some (fun x y => x * y)
  | .iand => some (fun x y => x &&& y)
  | .ior => some (fun x y => x ||| y)
  | .ixor => some (fun x y => x ^^^ y)
  | .ishl => some (fun x y => x <<< (y &&& 31))
  | .ishr => some (fun x y => x >>> (y &&& 31))
  | .iushr => some (fun x y => (x.toUInt32 >>> (y.toUInt32 &&& Int32.toUInt32 31)).toInt32)
  | _ => none
def jod (ins : Instr) : Option (Int32 → Int32 → Int32) := match ins with
  | .idiv => some (fun x y => x / y)
  | .irem => some (fun x y => x - x / y * y)
  | _ => none
def jlo (ins : Instr) : Option (Int64 → Int64 → Int64) := match ins with
  | .ladd => some (fun x y => x + y)
  | .lsub => some (fun x y => x - y)
  | .lmul => some (fun x y => x * y)
  | .lor => some (fun x y => x ||| y)
  | _ => none
def jld (ins : Instr) : Option (Int64 → Int64 → Int64) := match ins with
  | .ldiv => some (fun x y => x / y)
  | .lrem => some (fun x y => x - x / y * y)
  | _ => none
def jlh (ins : Instr) : Option (Int64 → Int32 → Int64) := match ins with
  | .lshl => some (fun x y => x <<< (y.toInt64 &&& 63))
  | .lushr => some (fun x y => (x.toUInt64 >>> (y.toInt64.toUInt64 &&& Int64.toUInt64 63)).toInt64)
  | _ => none
def ju1 (ins : Instr) : Option (Int32 → Int32) := match ins with
  | .i2b => some (fun x => x.toInt8.toInt32)
  | .i2c => some (fun x => (x.toUInt32 % 65536).toInt32)
  | _ => none
def jcm (c : ClassFile.Cond) (a b : Int) : Bool := match c with
  | .eq => decide (a = b)
  | .ne => !decide (a = b)
  | .lt => decide (a < b)
  | .ge => decide (b ≤ a)
  | .gt => decide (b < a)
  | .le => decide (a ≤ b)
def jpu (ins : Instr) (len : Nat) : Option Int := match ins with
  | .iconst n => if len = 1 then some (Int32.ofInt n).toInt else none
  | .bipush n => if len = 2 then some (Int8.ofInt n).toInt32.toInt else none
  | .sipush n => if len = 3 then some (Int16.ofInt n).toInt32.toInt else none
  | _ => none
/-- which local an instruction loads, stores, and of what sort -/
def jld_ (ins : Instr) : Option (Nat × (Nat × Nat)) := match ins with
  | .iload_n k => some (k.val, (1, 0))
  | .iload k => some (k, (2, 0))
  | .lload_n k => some (k.val, (1, 1))
  | .lload k => some (k, (2, 1))
  | .aload_n k => some (k.val, (1, 2))
  | .aload k => some (k, (2, 2))
  | _ => none
def jst_ (ins : Instr) : Option (Nat × (Nat × Nat)) := match ins with
  | .istore_n k => some (k.val, (1, 0))
  | .istore k => some (k, (2, 0))
  | .lstore_n k => some (k.val, (1, 1))
  | .lstore k => some (k, (2, 1))
  | .astore_n k => some (k.val, (1, 2))
  | .astore k => some (k, (2, 2))
  | _ => none
def srt (a : JV) : Nat := match a with
  | .inl _ => 0
  | .inr (.inl _) => 1
  | .inr (.inr _) => 2
/-- the texts that the class has -/
def jtx : List (List Int) := [[], [32, 119, 111, 117, 108, 100, 32, 110, 111, 116], [32, 119, 111, 117, 108, 100, 32], [32, 102, 111, 114, 32]]
def jnm (x z : Nat) : Int := if z = 0 then (x : Int) else -(x : Int)
def jwr (sh : List JS) (sc : Option (Nat × (Nat → Int))) (ins : Instr) (len x y z pc : Nat) (L : JL) (S : List JV) (M : JM) (F : Nat → JL → List JV → JM → Prop) : Prop := match ins with
  | .iinc k n => len = 3 ∧ ∃ a, L[k]? = some (some (.inl a)) ∧ F (pc + 3) (jst L k (.inl (Int32.ofInt a + Int32.ofInt n).toInt)) S M
  | .ldc_w _ => len = 3 ∧ ((z < 2 ∧ F (pc + 3) L (.inl (jnm x z) :: S) M) ∨ (z = 2 ∧ 0 < x ∧ x < 4 ∧ F (pc + 3) L (.inr (.inr (.inr x)) :: S) M))
  | .ldc _ => len = 2 ∧ F (pc + 2) L (.inl (jnm x z) :: S) M
  | .ldc2_w _ => len = 3 ∧ F (pc + 3) L (.inr (.inl (Int64.ofNat x)) :: S) M
  | .lconst k => len = 1 ∧ F (pc + 1) L (.inr (.inl (Int64.ofNat k.val)) :: S) M
  | .i2l => len = 1 ∧ ∃ a r, S = .inl a :: r ∧ F (pc + 1) L (.inr (.inl (Int32.ofInt a).toInt64) :: r) M
  | .l2i => len = 1 ∧ ∃ a r, S = .inr (.inl a) :: r ∧ F (pc + 1) L (.inl a.toInt32.toInt :: r) M
  | .lcmp => len = 1 ∧ ∃ a b r, S = .inr (.inl b) :: .inr (.inl a) :: r ∧ F (pc + 1) L (.inl (lg_cmp a b).toInt :: r) M
  | .dup => len = 1 ∧ ∃ a r, S = a :: r ∧ isl a = false ∧ F (pc + 1) L (a :: a :: r) M
  | .dup2 => len = 1 ∧ ∃ a b r, S = a :: b :: r ∧ isl a = false ∧ isl b = false ∧ F (pc + 1) L (a :: b :: a :: b :: r) M
  | .pop => len = 1 ∧ ∃ a r, S = a :: r ∧ isl a = false ∧ F (pc + 1) L r M
  | .goto o => len = 3 ∧ ∃ t : Nat, (pc : Int) + o = (t : Int) ∧ F t L S M
  | .if_icmp cd o => len = 3 ∧ ∃ (a b : Int) (r : List JV) (t : Nat), S = .inl b :: .inl a :: r ∧ (pc : Int) + o = (t : Int) ∧ (jcm cd a b = true → F t L r M) ∧ (jcm cd a b = false → F (pc + 3) L r M)
  | .ifCond cd o => len = 3 ∧ ∃ (a : Int) (r : List JV) (t : Nat), S = .inl a :: r ∧ (pc : Int) + o = (t : Int) ∧ (jcm cd a 0 = true → F t L r M) ∧ (jcm cd a 0 = false → F (pc + 3) L r M)
  | .tableswitch d lo hi os => ∃ (a : Int) (r : List JV) (o : Int) (t : Nat), S = .inl a :: r ∧ ((lo ≤ a ∧ a ≤ hi ∧ os[(a - lo).toNat]? = some o) ∨ ((a < lo ∨ hi < a) ∧ o = d)) ∧ (pc : Int) + o = (t : Int) ∧ F t L r M
  | .lookupswitch d ps => (ps.toList.zip (ps.toList.drop 1)).all (fun (a, next) => a.1 < next.1) = true ∧ ∃ (a : Int) (r : List JV) (t : Nat), S = .inl a :: r ∧ (pc : Int) + Op.lookupswitch.offset ps.toList d a = (t : Int) ∧ F t L r M
  | .getfield _ => len = 3 ∧ ∃ (c : Nat) (r : List JV) (fs : List JF), S = .inr (.inr (.inl c)) :: r ∧ sh[c]? = some (.inl (x, fs)) ∧ (((fs[y]? = some (.inl 0) ∨ fs[y]? = some (.inl 1)) ∧ F (pc + 3) L (.inl (M.1 c y) :: r) M) ∨ (fs[y]? = some (.inl 2) ∧ F (pc + 3) L (.inr (.inl (M.2 c y)) :: r) M) ∨ (∃ k, fs[y]? = some (.inr k) ∧ F (pc + 3) L (.inr (.inr (.inl k)) :: r) M))
  | .putfield _ => len = 3 ∧ ∃ (c : Nat) (r : List JV) (fs : List JF), sh[c]? = some (.inl (x, fs)) ∧ ((∃ a, S = .inl a :: .inr (.inr (.inl c)) :: r ∧ ((fs[y]? = some (.inl 0) ∧ z = 0) ∨ (fs[y]? = some (.inl 1) ∧ z = 1 ∧ 0 ≤ a ∧ a ≤ 1)) ∧ F (pc + 3) L r (jup M.1 c y a, M.2)) ∨ (∃ a, S = .inr (.inl a) :: .inr (.inr (.inl c)) :: r ∧ fs[y]? = some (.inl 2) ∧ z = 2 ∧ F (pc + 3) L r (M.1, jup M.2 c y a)))
  | .iaload => len = 1 ∧ ∃ (a : Int) (r : List JV), 0 ≤ a ∧ ((∃ c n, S = .inl a :: .inr (.inr (.inl c)) :: r ∧ sh[c]? = some (.inr (.inl (1, n))) ∧ a < (n : Int) ∧ F (pc + 1) L (.inl (M.1 c a.toNat) :: r) M) ∨ (∃ n f, S = .inl a :: .inr (.inr (.inr 0)) :: r ∧ sc = some (n, f) ∧ a < (n : Int) ∧ F (pc + 1) L (.inl (f a.toNat) :: r) M))
  | .baload => len = 1 ∧ ∃ (a : Int) (r : List JV) (c n kd : Nat), S = .inl a :: .inr (.inr (.inl c)) :: r ∧ sh[c]? = some (.inr (.inl (kd, n))) ∧ (kd = 0 ∨ kd = 3) ∧ 0 ≤ a ∧ a < (n : Int) ∧ F (pc + 1) L (.inl (M.1 c a.toNat) :: r) M
  | .laload => len = 1 ∧ ∃ (a : Int) (r : List JV) (c n : Nat), S = .inl a :: .inr (.inr (.inl c)) :: r ∧ sh[c]? = some (.inr (.inl (2, n))) ∧ 0 ≤ a ∧ a < (n : Int) ∧ F (pc + 1) L (.inr (.inl (M.2 c a.toNat)) :: r) M
  | .aaload => len = 1 ∧ ∃ (a : Int) (r : List JV) (c k kd : Nat) (cs : List Nat), S = .inl a :: .inr (.inr (.inl c)) :: r ∧ sh[c]? = some (.inr (.inr (kd, cs))) ∧ 0 ≤ a ∧ cs[a.toNat]? = some k ∧ F (pc + 1) L (.inr (.inr (.inl k)) :: r) M
  | .iastore => len = 1 ∧ ∃ (v a : Int) (r : List JV) (c n : Nat), S = .inl v :: .inl a :: .inr (.inr (.inl c)) :: r ∧ sh[c]? = some (.inr (.inl (1, n))) ∧ 0 ≤ a ∧ a < (n : Int) ∧ F (pc + 1) L r (jup M.1 c a.toNat v, M.2)
  | .bastore => len = 1 ∧ ∃ (v a : Int) (r : List JV) (c n kd : Nat), S = .inl v :: .inl a :: .inr (.inr (.inl c)) :: r ∧ sh[c]? = some (.inr (.inl (kd, n))) ∧ ((kd = 0 ∧ -128 ≤ v ∧ v ≤ 127) ∨ (kd = 3 ∧ 0 ≤ v ∧ v ≤ 1)) ∧ 0 ≤ a ∧ a < (n : Int) ∧ F (pc + 1) L r (jup M.1 c a.toNat v, M.2)
  | .lastore => len = 1 ∧ ∃ (v : Int64) (a : Int) (r : List JV) (c n : Nat), S = .inr (.inl v) :: .inl a :: .inr (.inr (.inl c)) :: r ∧ sh[c]? = some (.inr (.inl (2, n))) ∧ 0 ≤ a ∧ a < (n : Int) ∧ F (pc + 1) L r (M.1, jup M.2 c a.toNat v)
  | .arraylength => len = 1 ∧ ∃ r : List JV, (∃ c n kd, S = .inr (.inr (.inl c)) :: r ∧ sh[c]? = some (.inr (.inl (kd, n))) ∧ n < 2147483648 ∧ F (pc + 1) L (.inl (n : Int) :: r) M) ∨ (∃ n f, S = .inr (.inr (.inr 0)) :: r ∧ sc = some (n, f) ∧ F (pc + 1) L (.inl (n : Int) :: r) M)
  | .invokestatic _ => len = 3 ∧ ((x = 5 ∧ ∃ (a b : Int) (r : List JV), S = .inl b :: .inl a :: r ∧ r.length ≤ 4 ∧ F (pc + 3) L (.inl (if b < a then b else a) :: r) M) ∨ (x = 8 ∧ ∃ (a b : Int) (r : List JV), S = .inl b :: .inl a :: r ∧ r.length ≤ 4 ∧ F (pc + 3) L (.inl (if a < b then b else a) :: r) M) ∨
    (x = 6 ∧ ∃ (n : Int) (c1 c2 n1 n2 kd : Nat) (r : List JV) (M' : JM), S = .inl n :: .inl 0 :: .inr (.inr (.inl c2)) :: .inl 0 :: .inr (.inr (.inl c1)) :: r ∧ r.length ≤ 4 ∧ (kd = 1 ∨ kd = 2) ∧ sh[c1]? = some (.inr (.inl (kd, n1))) ∧ sh[c2]? = some (.inr (.inl (kd, n2))) ∧ 0 ≤ n ∧ n ≤ (n1 : Int) ∧ n ≤ (n2 : Int) ∧ (kd = 1 → M' = (jcp M.1 c1 c2 n, M.2)) ∧ (kd = 2 → M' = (M.1, jcp M.2 c1 c2 n)) ∧ F (pc + 3) L r M'))
  | .invokevirtual _ => len = 3 ∧ ((x = 11 ∧ ∃ (k : Nat) (t : List Int) (r : List JV), S = .inr (.inr (.inr k)) :: r ∧ r.length ≤ 4 ∧ 0 < k ∧ jtx[k]? = some t ∧ F (pc + 3) L (.inl (t.length : Int) :: r) M) ∨ (x = 12 ∧ ∃ (a : Int) (k : Nat) (t : List Int) (r : List JV), S = .inl a :: .inr (.inr (.inr k)) :: r ∧ r.length ≤ 4 ∧ 0 < k ∧ jtx[k]? = some t ∧ 0 ≤ a ∧ a < (t.length : Int) ∧ F (pc + 3) L (.inl (t.getD a.toNat 0) :: r) M))
  | _ => False
/-- what must hold for an instruction to lead to what F says -/
def jwp (sh : List JS) (sc : Option (Nat × (Nat → Int))) (ins : Instr) (len x y z pc : Nat) (L : JL) (S : List JV) (M : JM) (F : Nat → JL → List JV → JM → Prop) : Prop :=
  (∃ v, jpu ins len = some v ∧ F (pc + len) L (.inl v :: S) M) ∨
  (∃ k so a, jld_ ins = some (k, (len, so)) ∧ L[k]? = some (some a) ∧ srt a = so ∧ F (pc + len) L (a :: S) M) ∨
  (∃ k so a r, jst_ ins = some (k, (len, so)) ∧ S = a :: r ∧ srt a = so ∧ k + so % 2 < L.length ∧ F (pc + len) (jst L k a) r M) ∨
  (len = 1 ∧ ∃ f a b r, jop ins = some f ∧ S = .inl b :: .inl a :: r ∧ F (pc + 1) L (.inl (f (Int32.ofInt a) (Int32.ofInt b)).toInt :: r) M) ∨
  (len = 1 ∧ ∃ f a b r, jod ins = some f ∧ S = .inl b :: .inl a :: r ∧ b ≠ 0 ∧ F (pc + 1) L (.inl (f (Int32.ofInt a) (Int32.ofInt b)).toInt :: r) M) ∨
  (len = 1 ∧ ∃ f a b r, jlo ins = some f ∧ S = .inr (.inl b) :: .inr (.inl a) :: r ∧ F (pc + 1) L (.inr (.inl (f a b)) :: r) M) ∨
  (len = 1 ∧ ∃ f a b r, jld ins = some f ∧ S = .inr (.inl b) :: .inr (.inl a) :: r ∧ b ≠ 0 ∧ F (pc + 1) L (.inr (.inl (f a b)) :: r) M) ∨
  (len = 1 ∧ ∃ f a b r, jlh ins = some f ∧ S = .inl b :: .inr (.inl a) :: r ∧ F (pc + 1) L (.inr (.inl (f a (Int32.ofInt b))) :: r) M) ∨
  (len = 1 ∧ ∃ f a r, ju1 ins = some f ∧ S = .inl a :: r ∧ F (pc + 1) L (.inl (f (Int32.ofInt a)).toInt :: r) M) ∨
  jwr sh sc ins len x y z pc L S M F

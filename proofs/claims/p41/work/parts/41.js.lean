/-! One instruction over plain numbers, and what it says of the walk. -/
def jop (ins : Instr) : Option (Int32 → Int32 → Int32) := match ins with
  | .iadd => some (fun x y => x + y)
  | .isub => some (fun x y => x - y)
  | .imul => some (fun x y => x * y)
  | .iand => some (fun x y => x &&& y)
  | .ior => some (fun x y => x ||| y)
  | .ixor => some (fun x y => x ^^^ y)
  | .ishl => some (fun x y => x <<< (y &&& 31))
  | .ishr => some (fun x y => x >>> (y &&& 31))
  | .iushr => some (fun x y => (x.toUInt32 >>> (y.toUInt32 &&& Int32.toUInt32 31)).toInt32)
  | _ => none
def jod (ins : Instr) : Option (Int32 → Int32 → Int32) := match ins with
  | .idiv => some (fun x y => x / y)
  | .irem => some (fun x y => x - x / y * y)
  | _ => none
def jlo (ins : Instr) : Option (Int64 → Int64 → Int64) := match ins with
  | .ladd => some (fun x y => x + y)
  | .lsub => some (fun x y => x - y)
  | .lmul => some (fun x y => x * y)
  | .lor => some (fun x y => x ||| y)
  | _ => none
def jld (ins : Instr) : Option (Int64 → Int64 → Int64) := match ins with
  | .ldiv => some (fun x y => x / y)
  | .lrem => some (fun x y => x - x / y * y)
  | _ => none
def jlh (ins : Instr) : Option (Int64 → Int32 → Int64) := match ins with
  | .lshl => some (fun x y => x <<< (y.toInt64 &&& 63))
  | .lushr => some (fun x y => (x.toUInt64 >>> (y.toInt64.toUInt64 &&& Int64.toUInt64 63)).toInt64)
  | _ => none
def ju1 (ins : Instr) : Option (Int32 → Int32) := match ins with
  | .i2b => some (fun x => x.toInt8.toInt32)
  | .i2c => some (fun x => (x.toUInt32 % 65536).toInt32)
  | _ => none
def jcm (c : ClassFile.Cond) (a b : Int) : Bool := match c with
  | .eq => decide (a = b)
  | .ne => !decide (a = b)
  | .lt => decide (a < b)
  | .ge => decide (b ≤ a)
  | .gt => decide (b < a)
  | .le => decide (a ≤ b)
def jpu (ins : Instr) (len : Nat) : Option Int := match ins with
  | .iconst n => if len = 1 then some (Int32.ofInt n).toInt else none
  | .bipush n => if len = 2 then some (Int8.ofInt n).toInt32.toInt else none
  | .sipush n => if len = 3 then some (Int16.ofInt n).toInt32.toInt else none
  | _ => none
/-- which local an instruction loads, stores, and of what sort -/
def jld_ (ins : Instr) : Option (Nat × (Nat × Nat)) := match ins with
  | .iload_n k => some (k.val, (1, 0))
  | .iload k => some (k, (2, 0))
  | .lload_n k => some (k.val, (1, 1))
  | .lload k => some (k, (2, 1))
  | .aload_n k => some (k.val, (1, 2))
  | .aload k => some (k, (2, 2))
  | _ => none
def jst_ (ins : Instr) : Option (Nat × (Nat × Nat)) := match ins with
  | .istore_n k => some (k.val, (1, 0))
  | .istore k => some (k, (2, 0))
  | .lstore_n k => some (k.val, (1, 1))
  | .lstore k => some (k, (2, 1))
  | .astore_n k => some (k.val, (1, 2))
  | .astore k => some (k, (2, 2))
  | _ => none
def JV.srt : JV → Nat
  | .i _ => 0
  | .l _ => 1
  | .r _ => 2
  | .n => 3
  | .b _ => 2
/-- the texts that the class has -/
def jtx : List (List Int) := [[], [32, 119, 111, 117, 108, 100, 32, 110, 111, 116], [32, 119, 111, 117, 108, 100, 32], [32, 102, 111, 114, 32]]
inductive Js (sh : List JS) (sc : Option (Nat × (Nat → Int))) : Instr → Nat → Nat → Nat → Nat → Nat → JL → List JV → JM → Nat → JL → List JV → JM → Prop
  | push {ins : Instr} {len x y z pc : Nat} {v : Int} {L : JL} {S : List JV} {M : JM} (hv : jpu ins len = some v) : Js sh sc ins len x y z pc L S M (pc + len) L (.i v :: S) M
  | ldcw {i x y z pc : Nat} {L : JL} {S : List JV} {M : JM} (hz : z < 2) : Js sh sc (.ldc_w i) 3 x y z pc L S M (pc + 3) L (.i (if z = 0 then (x : Int) else -(x : Int)) :: S) M
  | ldci {i x y z pc : Nat} {L : JL} {S : List JV} {M : JM} : Js sh sc (.ldc i) 2 x y z pc L S M (pc + 2) L (.i (if z = 0 then (x : Int) else -(x : Int)) :: S) M
  | ldc2 {i x y z pc : Nat} {L : JL} {S : List JV} {M : JM} : Js sh sc (.ldc2_w i) 3 x y z pc L S M (pc + 3) L (.l (Int64.ofNat x) :: S) M
  | ldcs {i x y pc : Nat} {L : JL} {S : List JV} {M : JM} (hx : 0 < x) (hx2 : x < 4) : Js sh sc (.ldc_w i) 3 x y 2 pc L S M (pc + 3) L (.b x :: S) M
  | lcon {k : Fin 2} {x y z pc : Nat} {L : JL} {S : List JV} {M : JM} : Js sh sc (.lconst k) 1 x y z pc L S M (pc + 1) L (.l (Int64.ofNat k.val) :: S) M
  | load {ins : Instr} {k len so x y z pc : Nat} {a : JV} {L : JL} {S : List JV} {M : JM} (hi : jld_ ins = some (k, (len, so))) (ha : L[k]? = some (some a)) (hs : a.srt = so) : Js sh sc ins len x y z pc L S M (pc + len) L (a :: S) M
  | stor {ins : Instr} {k len so x y z pc : Nat} {a : JV} {L : JL} {S : List JV} {M : JM} (hi : jst_ ins = some (k, (len, so))) (hs : a.srt = so) (hk : k + so % 2 < L.length) : Js sh sc ins len x y z pc L (a :: S) M (pc + len) (jst L k a) S M
  | iinc {k x y z pc : Nat} {n a : Int} {L : JL} {S : List JV} {M : JM} (ha : L[k]? = some (some (.i a))) : Js sh sc (.iinc k n) 3 x y z pc L S M (pc + 3) (jst L k (.i (Int32.ofInt a + Int32.ofInt n).toInt)) S M
  | iop {ins : Instr} {f : Int32 → Int32 → Int32} {x y z pc : Nat} {a b : Int} {L : JL} {S : List JV} {M : JM} (hf : jop ins = some f) : Js sh sc ins 1 x y z pc L (.i b :: .i a :: S) M (pc + 1) L (.i (f (Int32.ofInt a) (Int32.ofInt b)).toInt :: S) M
  | idv {ins : Instr} {f : Int32 → Int32 → Int32} {x y z pc : Nat} {a b : Int} {L : JL} {S : List JV} {M : JM} (hf : jod ins = some f) (hb : b ≠ 0) : Js sh sc ins 1 x y z pc L (.i b :: .i a :: S) M (pc + 1) L (.i (f (Int32.ofInt a) (Int32.ofInt b)).toInt :: S) M
  | lop {ins : Instr} {f : Int64 → Int64 → Int64} {x y z pc : Nat} {a b : Int64} {L : JL} {S : List JV} {M : JM} (hf : jlo ins = some f) : Js sh sc ins 1 x y z pc L (.l b :: .l a :: S) M (pc + 1) L (.l (f a b) :: S) M
  | ldv {ins : Instr} {f : Int64 → Int64 → Int64} {x y z pc : Nat} {a b : Int64} {L : JL} {S : List JV} {M : JM} (hf : jld ins = some f) (hb : b ≠ 0) : Js sh sc ins 1 x y z pc L (.l b :: .l a :: S) M (pc + 1) L (.l (f a b) :: S) M
  | lsh {ins : Instr} {f : Int64 → Int32 → Int64} {x y z pc : Nat} {a : Int64} {b : Int} {L : JL} {S : List JV} {M : JM} (hf : jlh ins = some f) : Js sh sc ins 1 x y z pc L (.i b :: .l a :: S) M (pc + 1) L (.l (f a (Int32.ofInt b)) :: S) M
  | un1 {ins : Instr} {f : Int32 → Int32} {x y z pc : Nat} {a : Int} {L : JL} {S : List JV} {M : JM} (hf : ju1 ins = some f) : Js sh sc ins 1 x y z pc L (.i a :: S) M (pc + 1) L (.i (f (Int32.ofInt a)).toInt :: S) M
  | i2l {x y z pc : Nat} {a : Int} {L : JL} {S : List JV} {M : JM} : Js sh sc .i2l 1 x y z pc L (.i a :: S) M (pc + 1) L (.l (Int32.ofInt a).toInt64 :: S) M
  | l2i {x y z pc : Nat} {a : Int64} {L : JL} {S : List JV} {M : JM} : Js sh sc .l2i 1 x y z pc L (.l a :: S) M (pc + 1) L (.i a.toInt32.toInt :: S) M
  | lcmp {x y z pc : Nat} {a b : Int64} {L : JL} {S : List JV} {M : JM} : Js sh sc .lcmp 1 x y z pc L (.l b :: .l a :: S) M (pc + 1) L (.i (lg_cmp a b).toInt :: S) M
  | dup {x y z pc : Nat} {a : JV} {L : JL} {S : List JV} {M : JM} (ha : a.isl = false) : Js sh sc .dup 1 x y z pc L (a :: S) M (pc + 1) L (a :: a :: S) M
  | dup2 {x y z pc : Nat} {a b : JV} {L : JL} {S : List JV} {M : JM} (ha : a.isl = false) (hb : b.isl = false) : Js sh sc .dup2 1 x y z pc L (a :: b :: S) M (pc + 1) L (a :: b :: a :: b :: S) M
  | pop {x y z pc : Nat} {a : JV} {L : JL} {S : List JV} {M : JM} (ha : a.isl = false) : Js sh sc .pop 1 x y z pc L (a :: S) M (pc + 1) L S M
  | goto {o : Int} {x y z pc t : Nat} {L : JL} {S : List JV} {M : JM} (ht : (pc : Int) + o = (t : Int)) : Js sh sc (.goto o) 3 x y z pc L S M t L S M
  | icmp {cd : ClassFile.Cond} {o a b : Int} {x y z pc t pc2 : Nat} {L : JL} {S : List JV} {M : JM} (ht : (pc : Int) + o = (t : Int)) (h : (jcm cd a b = true ∧ pc2 = t) ∨ (jcm cd a b = false ∧ pc2 = pc + 3)) : Js sh sc (.if_icmp cd o) 3 x y z pc L (.i b :: .i a :: S) M pc2 L S M
  | ifc {cd : ClassFile.Cond} {o a : Int} {x y z pc t pc2 : Nat} {L : JL} {S : List JV} {M : JM} (ht : (pc : Int) + o = (t : Int)) (h : (jcm cd a 0 = true ∧ pc2 = t) ∨ (jcm cd a 0 = false ∧ pc2 = pc + 3)) : Js sh sc (.ifCond cd o) 3 x y z pc L (.i a :: S) M pc2 L S M
  | tsw {d lo hi o a : Int} {os : Array Int} {len x y z pc t : Nat} {L : JL} {S : List JV} {M : JM} (h : (lo ≤ a ∧ a ≤ hi ∧ os[(a - lo).toNat]? = some o) ∨ ((a < lo ∨ hi < a) ∧ o = d)) (ht : (pc : Int) + o = (t : Int)) : Js sh sc (.tableswitch d lo hi os) len x y z pc L (.i a :: S) M t L S M
  | lsw {d o a : Int} {ps : Array (Int × Int)} {len x y z pc t : Nat} {L : JL} {S : List JV} {M : JM} (hp : (ps.toList.zip (ps.toList.drop 1)).all (fun (a, next) => a.1 < next.1) = true) (h : Op.lookupswitch.offset ps.toList d a = o) (ht : (pc : Int) + o = (t : Int)) : Js sh sc (.lookupswitch d ps) len x y z pc L (.i a :: S) M t L S M
  | geti {i x y z pc c : Nat} {fs : List JF} {L : JL} {S : List JV} {M : JM} (hc : sh[c]? = some (.o x fs)) (hf : fs[y]? = some .i ∨ fs[y]? = some .z) : Js sh sc (.getfield i) 3 x y z pc L (.r c :: S) M (pc + 3) L (.i (M.m c y) :: S) M
  | getl {i x y z pc c : Nat} {fs : List JF} {L : JL} {S : List JV} {M : JM} (hc : sh[c]? = some (.o x fs)) (hf : fs[y]? = some .l) : Js sh sc (.getfield i) 3 x y z pc L (.r c :: S) M (pc + 3) L (.l (M.w c y) :: S) M
  | getr {i x y z pc c k : Nat} {fs : List JF} {L : JL} {S : List JV} {M : JM} (hc : sh[c]? = some (.o x fs)) (hf : fs[y]? = some (.r k)) : Js sh sc (.getfield i) 3 x y z pc L (.r c :: S) M (pc + 3) L (.r k :: S) M
  | puti {i x y z pc c : Nat} {v : Int} {fs : List JF} {L : JL} {S : List JV} {M : JM} (hc : sh[c]? = some (.o x fs)) (hf : (fs[y]? = some .i ∧ z = 0) ∨ (fs[y]? = some .z ∧ z = 1 ∧ 0 ≤ v ∧ v ≤ 1)) : Js sh sc (.putfield i) 3 x y z pc L (.i v :: .r c :: S) M (pc + 3) L S ⟨jup M.m c y v, M.w⟩
  | putl {i x y z pc c : Nat} {v : Int64} {fs : List JF} {L : JL} {S : List JV} {M : JM} (hc : sh[c]? = some (.o x fs)) (hf : fs[y]? = some .l) (hz : z = 2) : Js sh sc (.putfield i) 3 x y z pc L (.l v :: .r c :: S) M (pc + 3) L S ⟨M.m, jup M.w c y v⟩
  | iald {x y z pc c n : Nat} {a : Int} {L : JL} {S : List JV} {M : JM} (hc : sh[c]? = some (.a 1 n)) (h0 : 0 ≤ a) (hn : a < n) : Js sh sc .iaload 1 x y z pc L (.i a :: .r c :: S) M (pc + 1) L (.i (M.m c a.toNat) :: S) M
  | bald {x y z pc c n kd : Nat} {a : Int} {L : JL} {S : List JV} {M : JM} (hc : sh[c]? = some (.a kd n)) (hk : kd = 0 ∨ kd = 3) (h0 : 0 ≤ a) (hn : a < n) : Js sh sc .baload 1 x y z pc L (.i a :: .r c :: S) M (pc + 1) L (.i (M.m c a.toNat) :: S) M
  | lald {x y z pc c n : Nat} {a : Int} {L : JL} {S : List JV} {M : JM} (hc : sh[c]? = some (.a 2 n)) (h0 : 0 ≤ a) (hn : a < n) : Js sh sc .laload 1 x y z pc L (.i a :: .r c :: S) M (pc + 1) L (.l (M.w c a.toNat) :: S) M
  | aald {x y z pc c k kd : Nat} {cs : List Nat} {a : Int} {L : JL} {S : List JV} {M : JM} (hc : sh[c]? = some (.q kd cs)) (h0 : 0 ≤ a) (hk : cs[a.toNat]? = some k) : Js sh sc .aaload 1 x y z pc L (.i a :: .r c :: S) M (pc + 1) L (.r k :: S) M
  | iast {x y z pc c n : Nat} {a v : Int} {L : JL} {S : List JV} {M : JM} (hc : sh[c]? = some (.a 1 n)) (h0 : 0 ≤ a) (hn : a < n) : Js sh sc .iastore 1 x y z pc L (.i v :: .i a :: .r c :: S) M (pc + 1) L S ⟨jup M.m c a.toNat v, M.w⟩
  | bast {x y z pc c n kd : Nat} {a v : Int} {L : JL} {S : List JV} {M : JM} (hc : sh[c]? = some (.a kd n)) (hk : (kd = 0 ∧ -128 ≤ v ∧ v ≤ 127) ∨ (kd = 3 ∧ 0 ≤ v ∧ v ≤ 1)) (h0 : 0 ≤ a) (hn : a < n) : Js sh sc .bastore 1 x y z pc L (.i v :: .i a :: .r c :: S) M (pc + 1) L S ⟨jup M.m c a.toNat v, M.w⟩
  | last {x y z pc c n : Nat} {a : Int} {v : Int64} {L : JL} {S : List JV} {M : JM} (hc : sh[c]? = some (.a 2 n)) (h0 : 0 ≤ a) (hn : a < n) : Js sh sc .lastore 1 x y z pc L (.l v :: .i a :: .r c :: S) M (pc + 1) L S ⟨M.m, jup M.w c a.toNat v⟩
  | alen {x y z pc c n kd : Nat} {L : JL} {S : List JV} {M : JM} (hc : sh[c]? = some (.a kd n)) (hn : n < 2147483648) : Js sh sc .arraylength 1 x y z pc L (.r c :: S) M (pc + 1) L (.i (n : Int) :: S) M
  | sald {x y z pc n : Nat} {f : Nat → Int} {a : Int} {L : JL} {S : List JV} {M : JM} (hc : sc = some (n, f)) (h0 : 0 ≤ a) (hn : a < n) : Js sh sc .iaload 1 x y z pc L (.i a :: .b 0 :: S) M (pc + 1) L (.i (f a.toNat) :: S) M
  | slen {x y z pc n : Nat} {f : Nat → Int} {L : JL} {S : List JV} {M : JM} (hc : sc = some (n, f)) : Js sh sc .arraylength 1 x y z pc L (.b 0 :: S) M (pc + 1) L (.i (n : Int) :: S) M
  | jmin {i y z pc : Nat} {a b : Int} {L : JL} {S : List JV} {M : JM} (hS : S.length ≤ 4) : Js sh sc (.invokestatic i) 3 5 y z pc L (.i b :: .i a :: S) M (pc + 3) L (.i (if b < a then b else a) :: S) M
  | jmax {i y z pc : Nat} {a b : Int} {L : JL} {S : List JV} {M : JM} (hS : S.length ≤ 4) : Js sh sc (.invokestatic i) 3 8 y z pc L (.i b :: .i a :: S) M (pc + 3) L (.i (if a < b then b else a) :: S) M
  | acpi {i y z pc c1 c2 n1 n2 : Nat} {n : Int} {L : JL} {S : List JV} {M : JM} (hS : S.length ≤ 4) (h1 : sh[c1]? = some (.a 1 n1)) (h2 : sh[c2]? = some (.a 1 n2)) (h0 : 0 ≤ n) (hn1 : n ≤ n1) (hn2 : n ≤ n2) (hne : c1 ≠ c2) : Js sh sc (.invokestatic i) 3 6 y z pc L (.i n :: .i 0 :: .r c2 :: .i 0 :: .r c1 :: S) M (pc + 3) L S ⟨fun c j => if c = c2 then (if (j : Int) < n then M.m c1 j else M.m c j) else M.m c j, M.w⟩
  | acpl {i y z pc c1 c2 n1 n2 : Nat} {n : Int} {L : JL} {S : List JV} {M : JM} (hS : S.length ≤ 4) (h1 : sh[c1]? = some (.a 2 n1)) (h2 : sh[c2]? = some (.a 2 n2)) (h0 : 0 ≤ n) (hn1 : n ≤ n1) (hn2 : n ≤ n2) (hne : c1 ≠ c2) : Js sh sc (.invokestatic i) 3 6 y z pc L (.i n :: .i 0 :: .r c2 :: .i 0 :: .r c1 :: S) M (pc + 3) L S ⟨M.m, fun c j => if c = c2 then (if (j : Int) < n then M.w c1 j else M.w c j) else M.w c j⟩
  | slng {i y z pc k : Nat} {t : List Int} {L : JL} {S : List JV} {M : JM} (hS : S.length ≤ 4) (hk : 0 < k) (ht : jtx[k]? = some t) : Js sh sc (.invokevirtual i) 3 11 y z pc L (.b k :: S) M (pc + 3) L (.i (t.length : Int) :: S) M
  | scha {i y z pc k : Nat} {t : List Int} {a : Int} {L : JL} {S : List JV} {M : JM} (hS : S.length ≤ 4) (hk : 0 < k) (ht : jtx[k]? = some t) (h0 : 0 ≤ a) (hn : a < t.length) : Js sh sc (.invokevirtual i) 3 12 y z pc L (.i a :: .b k :: S) M (pc + 3) L (.i (t.getD a.toNat 0) :: S) M

/-! A machine of intervals: it runs a method's instructions over cells whose numbers are intervals; what it answers holds of the machine itself (part 03). Written so that a kernel computes it: each number is forced before it is handed on. -/
abbrev AI : Type := Int × Int
abbrev AV : Type := AI ⊕ (Option Int64 ⊕ (Nat ⊕ Nat))
abbrev AC : Type := (Nat × List AV) ⊕ (Nat × (Nat × List (List AV)))
abbrev AH : Type := Nat × (Nat × List (List (Option AC)))
abbrev EN : Type := Instr × (Nat × (Nat × (Nat × Nat)))
abbrev TB : Type := List (List (Option EN))
abbrev LO : Type := List (Option AV)
abbrev NX : Type := (Nat × (LO × (List AV × AH))) ⊕ (Option AV × AH)
abbrev CAL : Type := Nat → List AV → AH → Option (Option AV × AH)
abbrev MR : Type := MethodName × (ByteArray × (Nat × (Option FieldType × (Nat × (Nat × TB)))))
def fN {β : Type} (n : Nat) (k : Nat → β) : β := match n with
  | 0 => k 0
  | Nat.succ m => k (Nat.succ m)
theorem fN_eq {β : Type} (n : Nat) (k : Nat → β) : fN n k = k n := by cases n <;> rfl
def fI {β : Type} (z : Int) (k : Int → β) : β := match z with
  | Int.ofNat n => fN n (fun n => k (Int.ofNat n))
  | Int.negSucc n => fN n (fun n => k (Int.negSucc n))
theorem fI_eq {β : Type} (z : Int) (k : Int → β) : fI z k = k z := by cases z <;> simp [fI, fN_eq]
noncomputable def lg {α : Type} (l : List α) : Nat → Option α := List.rec (motive := fun _ => Nat → Option α) (fun _ => none) (fun a _ ih n => Nat.casesOn (motive := fun _ => Option α) n (some a) ih) l
theorem lg_eq {α : Type} (l : List α) (n : Nat) : lg l n = l[n]? := by
  induction l generalizing n with
  | nil => rfl
  | cons a l ih => cases n with
    | zero => rfl
    | succ n => rw [List.getElem?_cons_succ, ← ih]; rfl
noncomputable def lsK {α β : Type} (l : List α) : Nat → α → (List α → β) → β := List.rec (motive := fun _ => Nat → α → (List α → β) → β) (fun _ _ k => k []) (fun a l ih n x k => Nat.casesOn (motive := fun _ => β) n (k (x :: l)) (fun n => ih n x (fun r => k (a :: r)))) l
theorem lsK_eq {α β : Type} (l : List α) (n : Nat) (x : α) (k : List α → β) : lsK l n x k = k (l.set n x) := by
  induction l generalizing n k with
  | nil => simp; rfl
  | cons a l ih => cases n with
    | zero => simp; rfl
    | succ n => rw [List.set_cons_succ, ← ih n (fun r => k (a :: r))]; rfl
noncomputable def pg {α : Type} (v : List (List α)) (i : Nat) : Option α := match lg v (i / 32) with
  | some c => lg c (i % 32)
  | none => none
noncomputable def ps {α : Type} (v : List (List α)) (i : Nat) (x : α) : List (List α) := match lg v (i / 32) with
  | some c => v.set (i / 32) (c.set (i % 32) x)
  | none => v
noncomputable def psK {α β : Type} (v : List (List α)) (i : Nat) (x : α) (k : List (List α) → β) : β := match lg v (i / 32) with
  | some c => lsK c (i % 32) x (fun c => lsK v (i / 32) c k)
  | none => k v
theorem psK_eq {α β : Type} (v : List (List α)) (i : Nat) (x : α) (k : List (List α) → β) : psK v i x k = k (ps v i x) := by
  unfold psK ps
  cases lg v (i / 32) <;> simp [lsK_eq]
theorem pg_ps {α : Type} (v : List (List α)) (i j : Nat) (x : α) : pg (ps v i x) j = if j = i then (pg v i).map (fun _ => x) else pg v j := by
  unfold pg ps
  simp only [lg_eq]
  cases h : v[i / 32]? with
  | none =>
    by_cases hj : j = i
    · subst hj; simp [h]
    · simp [hj]
  | some c =>
    have hlt : i / 32 < v.length := (List.getElem?_eq_some_iff.mp h).1
    by_cases hd : j / 32 = i / 32
    · rw [hd]
      simp only [List.getElem?_set_self hlt, h]
      by_cases hm : j % 32 = i % 32
      · have hj : j = i := by omega
        subst hj
        simp only [if_true]
        by_cases hc : j % 32 < c.length
        · simp [hc]
        · simp [hc]
      · have hj : j ≠ i := fun e => hm (by rw [e])
        rw [if_neg hj, List.getElem?_set_ne (Ne.symm hm)]
    · have hj : j ≠ i := fun e => hd (by rw [e])
      rw [if_neg hj, List.getElem?_set_ne (Ne.symm hd)]
/-! numbers -/
def iTop : AI := (-2147483648, 2147483647)
def inR (z : Int) : Bool := decide (-2147483648 ≤ z) && decide (z ≤ 2147483647)
def iop (f : Int32 → Int32 → Int32) (a b : AI) : AI := bif decide (a.1 = a.2) && decide (b.1 = b.2) then ((f (Int32.ofInt a.1) (Int32.ofInt b.1)).toInt, (f (Int32.ofInt a.1) (Int32.ofInt b.1)).toInt) else iTop
def iopK {β : Type} (f : Int32 → Int32 → Int32) (a b : AI) (k : AI → β) : β := bif decide (a.1 = a.2) && decide (b.1 = b.2) then fI (f (Int32.ofInt a.1) (Int32.ofInt b.1)).toInt (fun r => k (r, r)) else k iTop
theorem iopK_eq {β : Type} (f : Int32 → Int32 → Int32) (a b : AI) (k : AI → β) : iopK f a b k = k (iop f a b) := by
  unfold iopK iop
  cases (decide (a.1 = a.2) && decide (b.1 = b.2)) <;> simp [fI_eq]
def iad (a b : AI) : AI := bif inR (a.1 + b.1) && inR (a.2 + b.2) then (a.1 + b.1, a.2 + b.2) else iTop
def iadK {β : Type} (a b : AI) (k : AI → β) : β := fI (a.1 + b.1) (fun x => fI (a.2 + b.2) (fun y => bif inR x && inR y then k (x, y) else k iTop))
theorem iadK_eq {β : Type} (a b : AI) (k : AI → β) : iadK a b k = k (iad a b) := by
  unfold iadK iad
  simp only [fI_eq]
  cases (inR (a.1 + b.1) && inR (a.2 + b.2)) <;> rfl
def isb (a b : AI) : AI := bif inR (a.1 - b.2) && inR (a.2 - b.1) then (a.1 - b.2, a.2 - b.1) else iTop
def isbK {β : Type} (a b : AI) (k : AI → β) : β := fI (a.1 - b.2) (fun x => fI (a.2 - b.1) (fun y => bif inR x && inR y then k (x, y) else k iTop))
theorem isbK_eq {β : Type} (a b : AI) (k : AI → β) : isbK a b k = k (isb a b) := by
  unfold isbK isb
  simp only [fI_eq]
  cases (inR (a.1 - b.2) && inR (a.2 - b.1)) <;> rfl
def iml (a b : AI) : AI := bif decide (a.1 = a.2) && (decide (b.1 = b.2) && inR (a.1 * b.1)) then (a.1 * b.1, a.1 * b.1) else iTop
def imlK {β : Type} (a b : AI) (k : AI → β) : β := fI (a.1 * b.1) (fun x => bif decide (a.1 = a.2) && (decide (b.1 = b.2) && inR x) then k (x, x) else k iTop)
theorem imlK_eq {β : Type} (a b : AI) (k : AI → β) : imlK a b k = k (iml a b) := by
  unfold imlK iml
  simp only [fI_eq]
  cases (decide (a.1 = a.2) && (decide (b.1 = b.2) && inR (a.1 * b.1))) <;> rfl
def ib (a : AI) : AI := bif decide (-128 ≤ a.1) && decide (a.2 ≤ 127) then a else (-128, 127)
def imn (a b : AI) : AI := bif decide (a.2 ≤ b.1) then a else bif decide (b.2 ≤ a.1) then b else iTop
def lt3 (a b : AI) : Option Bool := bif decide (a.2 < b.1) then some true else bif decide (b.2 ≤ a.1) then some false else none
def eq3 (a b : AI) : Option Bool := bif decide (a.1 = a.2) && (decide (b.1 = b.2) && decide (a.1 = b.1)) then some true else bif decide (a.2 < b.1) || decide (b.2 < a.1) then some false else none
def no3 (b : Option Bool) : Option Bool := match b with
  | some true => some false
  | some false => some true
  | none => none
def cm3 (c : ClassFile.Cond) (a b : AI) : Option Bool := match c with
  | .eq => eq3 a b
  | .ne => no3 (eq3 a b)
  | .lt => lt3 a b
  | .ge => no3 (lt3 a b)
  | .gt => lt3 b a
  | .le => no3 (lt3 b a)
/-! cells -/
noncomputable def hget (h : AH) (i : Nat) : Option AC := match pg h.2.2 i with
  | some (some c) => some c
  | _ => none
noncomputable def hset (h : AH) (i : Nat) (c : AC) : AH := (h.1, (h.2.1, ps h.2.2 i (some c)))
noncomputable def hsetK {β : Type} (h : AH) (i : Nat) (c : AC) (k : AH → β) : β := psK h.2.2 i (some c) (fun v => k (h.1, (h.2.1, v)))
theorem hsetK_eq {β : Type} (h : AH) (i : Nat) (c : AC) (k : AH → β) : hsetK h i c k = k (hset h i c) := by
  unfold hsetK hset
  rw [psK_eq]
noncomputable def isFree (h : AH) : Bool := match pg h.2.2 h.1 with
  | some none => true
  | _ => false
noncomputable def hnew (h : AH) (c : AC) (n : Nat) : AH := (h.1 + 1, (h.2.1 + n, ps h.2.2 h.1 (some c)))
noncomputable def hnewK {β : Type} (h : AH) (c : AC) (n : Nat) (k : AH → β) : β := fN (h.1 + 1) (fun x => fN (h.2.1 + n) (fun y => psK h.2.2 h.1 (some c) (fun v => k (x, (y, v)))))
theorem hnewK_eq {β : Type} (h : AH) (c : AC) (n : Nat) (k : AH → β) : hnewK h c n k = k (hnew h c n) := by
  unfold hnewK hnew
  simp only [fN_eq, psK_eq]
/-! going on -/
def go_ (pc : Nat) (L : LO) (S : List AV) (h : AH) : Option NX := fN pc (fun pc => some (.inl (pc, (L, (S, h)))))
theorem go_eq (pc : Nat) (L : LO) (S : List AV) (h : AH) : go_ pc L S h = some (.inl (pc, (L, (S, h)))) := by unfold go_; rw [fN_eq]
noncomputable def ldL (L : LO) (i : Nat) : Option AV := match lg L i with
  | some (some a) => some a
  | _ => none
def br_ (c : Option Bool) (pc : Nat) (off : Int) (L : LO) (S : List AV) (h : AH) : Option NX := match (pc : Int) + off with
  | Int.ofNat t => (match c with
    | some true => go_ t L S h
    | some false => go_ (pc + 3) L S h
    | none => none)
  | Int.negSucc _ => none
def ix_ {β : Type} (a : AI) (n : Nat) (k : Nat → Option β) : Option β := match a.1 with
  | Int.ofNat i => bif decide (a.1 = a.2) && Nat.blt i n then k i else none
  | Int.negSucc _ => none
def tk_ {β : Type} : Nat → List AV → List AV → (List AV → List AV → Option β) → Option β
  | 0, S, acc, k => k acc S
  | Nat.succ n, a :: S, acc, k => tk_ n S (a :: acc) k
  | Nat.succ _, [], _, _ => none
def zs (n : Nat) (z : AV) : List (List AV) := List.replicate (n / 32 + 1) (List.replicate 32 z)
def fitA (z : Nat) (v : AV) : Bool := match v with
  | .inl a => bif Nat.beq z 0 then true else bif Nat.beq z 1 then decide (0 ≤ a.1) && decide (a.2 ≤ 1) else false
  | .inr (.inl _) => Nat.beq z 2
  | .inr (.inr (.inl _)) => Nat.beq z 3
  | .inr (.inr (.inr k)) => Nat.beq z 3 && Nat.beq k 0
def isL (v : AV) : Bool := match v with
  | .inr (.inl _) => true
  | _ => false
def akind (t : ArrayType) : Option (Nat × AV) := match t with
  | .byte => some (0, .inl (0, 0))
  | .int => some (1, .inl (0, 0))
  | .long => some (2, .inr (.inl (some 0)))
  | .boolean => some (3, .inl (0, 0))
  | _ => none
/-- what is loaded of an array -/
noncomputable def ald (sc : Option (Nat → AI)) (kd : Nat → Bool) (pc : Nat) (L : LO) (S : List AV) (h : AH) : Option NX := match S with
  | .inl i :: .inr (.inr (.inl a)) :: r => (match hget h a with
    | some (.inr (kk, (n, ch))) => bif kd kk then ix_ i n (fun j => match pg ch j with
      | some v => go_ (pc + 1) L (v :: r) h
      | none => none) else none
    | _ => none)
  | .inl i :: .inr (.inr (.inr (Nat.succ Nat.zero))) :: r => (match sc with
    | some f => bif kd 1 then ix_ i 6 (fun j => go_ (pc + 1) L (.inl (f j) :: r) h) else none
    | none => none)
  | _ => none
/-- what is stored in an array: 'ok kind value' -/
noncomputable def ast (h0 : AH) (ok : Nat → AV → Bool) (pc : Nat) (L : LO) (S : List AV) (h : AH) : Option NX := match S with
  | v :: .inl i :: .inr (.inr (.inl a)) :: r => (match hget h a with
    | some (.inr (kk, (n, ch))) => bif ok kk v then ix_ i n (fun j => psK ch j v (fun ch => hsetK h a (.inr (kk, (n, ch))) (fun h => go_ (pc + 1) L r h))) else none
    | _ => none)
  | _ => none
def okB (k : Nat) (v : AV) : Bool := match v with
  | .inl a => bif Nat.beq k 0 then decide (-128 ≤ a.1) && decide (a.2 ≤ 127) else bif Nat.beq k 3 then decide (0 ≤ a.1) && decide (a.2 ≤ 1) else false
  | _ => false
def okI (k : Nat) (v : AV) : Bool := match v with
  | .inl _ => Nat.beq k 1
  | _ => false
def okJ (k : Nat) (v : AV) : Bool := match v with
  | .inr (.inl _) => Nat.beq k 2
  | _ => false
noncomputable def isO (h : AH) (ci : Nat) (v : AV) : Bool := match v with
  | .inr (.inr (.inl i)) => (match hget h i with
    | some (.inl (c, _)) => Nat.beq c ci
    | _ => false)
  | _ => false
noncomputable def okA (h : AH) (k : Nat) (v : AV) : Bool := bif Nat.beq k 4 then isO h 2 v else bif Nat.beq k 5 then isO h 8 v else false
def int1 (S : List AV) (k : AI → List AV → Option NX) : Option NX := match S with
  | .inl a :: r => k a r
  | _ => none
def int2 (S : List AV) (k : AI → AI → List AV → Option NX) : Option NX := match S with
  | .inl b :: .inl a :: r => k a b r
  | _ => none
noncomputable def sto (L : LO) (i : Nat) (v : AV) (pc : Nat) (S : List AV) (h : AH) : Option NX := bif isL v then none else bif Nat.blt i L.length then lsK L i (some v) (fun L => go_ pc L S h) else none
def one (len n : Nat) (r : Option NX) : Option NX := bif Nat.beq len n then r else none
noncomputable def cpy (f g : List (List AV)) (n : Nat) : Option (List (List AV)) := match n with
  | 0 => some g
  | Nat.succ k => (match pg f k with
    | some v => (match cpy f g k with
      | some g => some (ps g k v)
      | none => none)
    | none => none)
noncomputable def cpyK {β : Type} (f : List (List AV)) (n : Nat) (g : List (List AV)) (k : List (List AV) → Option β) : Option β := match n with
  | 0 => k g
  | Nat.succ m => cpyK f m g (fun g => match pg f m with
    | some v => psK g m v k
    | none => none)
theorem cpyK_eq {β : Type} (f g : List (List AV)) (n : Nat) (k : List (List AV) → Option β) : cpyK f n g k = (cpy f g n).bind k := by
  induction n generalizing k with
  | zero => rfl
  | succ n ih =>
    unfold cpyK cpy
    rw [ih]
    cases pg f n <;> cases cpy f g n <;> simp [psK_eq]
/-- System.arraycopy from the beginnings of two arrays of a kind (1: ints, 2: longs) -/
noncomputable def acp (pc : Nat) (L : LO) (S : List AV) (h : AH) : Option NX := match S with
  | .inl n :: .inl dp :: .inr (.inr (.inl d)) :: .inl sp :: .inr (.inr (.inl s)) :: r => (match hget h s, hget h d with
    | some (.inr (k1, (n1, f))), some (.inr (k2, (n2, g))) => bif (Nat.beq k1 1 || Nat.beq k1 2) && (Nat.beq k1 k2 && (decide (dp = (0, 0)) && (decide (sp = (0, 0)) && Nat.ble r.length 4))) then ix_ n (n1 + 1) (fun m => bif Nat.ble m n2 then cpyK f m g (fun g => hsetK h d (.inr (k2, (n2, g))) (fun h => go_ (pc + 3) L r h)) else none) else none
    | _, _ => none)
  | _ => none
/-- the receiver: of its class, where the call asks for it -/
noncomputable def rcv (x ci : Nat) (h : AH) (As : List AV) : Bool := bif Nat.beq x 1 then (match As with
    | a :: _ => isO h ci a
    | [] => false) else bif Nat.beq x 2 || Nat.beq x 4 then (match As with
    | .inr (.inr (.inl _)) :: _ => true
    | _ => false) else true
noncomputable def inv (P : Nat → Option MR) (cal : CAL) (x y pc : Nat) (L : LO) (S : List AV) (h : AH) : Option NX :=
  bif Nat.beq x 7 then (match S with
    | .inr (.inr (.inl _)) :: r => bif Nat.ble r.length 4 then go_ (pc + 3) L r h else none
    | _ => none)
  else bif Nat.beq x 5 then int2 S (fun a b r => bif Nat.ble r.length 4 then go_ (pc + 3) L (.inl (imn a b) :: r) h else none)
  else bif Nat.beq x 6 then acp pc L S h
  else match P y with
    | some (_, (_, (_, (_, (na, (ci, _)))))) => tk_ na S [] (fun As r => bif Nat.ble r.length 4 && rcv x ci h As then (match cal y As h with
        | some (rv, h) => (match rv with
          | some v => go_ (pc + 3) L (v :: r) h
          | none => go_ (pc + 3) L r h)
        | none => none) else none)
    | none => none
def retA (rt : Option FieldType) (S : List AV) (h : AH) : Option NX := match S with
  | [.inl a] => (match rt with
    | some .int => some (.inr (some (.inl a), h))
    | some .boolean => bif decide (0 ≤ a.1) && decide (a.2 ≤ 1) then some (.inr (some (.inl a), h)) else none
    | _ => none)
  | _ => none
def retV (rt : Option FieldType) (S : List AV) (h : AH) : Option NX := match S, rt with
  | [], none => some (.inr (none, h))
  | _, _ => none
def nZ (a : AI) : Bool := decide (0 < a.1) || decide (a.2 < 0)
/-- one instruction -/
noncomputable def stpI (P : Nat → Option MR) (cal : CAL) (sc : Option (Nat → AI)) (rt : Option FieldType) (dfs : Nat → Option (List AV)) (ins : Instr) (len x y z pc : Nat) (L : LO) (S : List AV) (h : AH) : Option NX := match ins with
    | .iconst n => one len 1 (fI (Int32.ofInt n).toInt (fun n => go_ (pc + 1) L (.inl (n, n) :: S) h))
    | .bipush n => one len 2 (fI (Int8.ofInt n).toInt32.toInt (fun n => go_ (pc + 2) L (.inl (n, n) :: S) h))
    | .sipush n => one len 3 (fI (Int16.ofInt n).toInt32.toInt (fun n => go_ (pc + 3) L (.inl (n, n) :: S) h))
    | .iload_n k => one len 1 (match ldL L k.val with
      | some (.inl a) => go_ (pc + 1) L (.inl a :: S) h
      | _ => none)
    | .iload k => one len 2 (match ldL L k with
      | some (.inl a) => go_ (pc + 2) L (.inl a :: S) h
      | _ => none)
    | .aload_n k => one len 1 (match ldL L k.val with
      | some (.inr (.inr r)) => go_ (pc + 1) L (.inr (.inr r) :: S) h
      | _ => none)
    | .istore_n k => one len 1 (match S with
      | .inl a :: r => sto L k.val (.inl a) (pc + 1) r h
      | _ => none)
    | .istore k => one len 2 (match S with
      | .inl a :: r => sto L k (.inl a) (pc + 2) r h
      | _ => none)
    | .astore_n k => one len 1 (match S with
      | .inr (.inr (.inl i)) :: r => sto L k.val (.inr (.inr (.inl i))) (pc + 1) r h
      | _ => none)
    | .iinc k n => one len 3 (match ldL L k with
      | some (.inl a) => iadK a ((Int32.ofInt n).toInt, (Int32.ofInt n).toInt) (fun a => sto L k (.inl a) (pc + 3) S h)
      | _ => none)
    | .iadd => one len 1 (int2 S (fun a b r => iadK a b (fun c => go_ (pc + 1) L (.inl c :: r) h)))
    | .isub => one len 1 (int2 S (fun a b r => isbK a b (fun c => go_ (pc + 1) L (.inl c :: r) h)))
    | .imul => one len 1 (int2 S (fun a b r => imlK a b (fun c => go_ (pc + 1) L (.inl c :: r) h)))
    | .idiv => one len 1 (int2 S (fun a b r => bif nZ b then iopK (fun x y => x / y) a b (fun c => go_ (pc + 1) L (.inl c :: r) h) else none))
    | .irem => one len 1 (int2 S (fun a b r => bif nZ b then iopK (fun x y => x - x / y * y) a b (fun c => go_ (pc + 1) L (.inl c :: r) h) else none))
    | .iand => one len 1 (int2 S (fun a b r => iopK (fun x y => x &&& y) a b (fun c => go_ (pc + 1) L (.inl c :: r) h)))
    | .ishl => one len 1 (int2 S (fun a b r => iopK (fun x y => x <<< (y &&& 31)) a b (fun c => go_ (pc + 1) L (.inl c :: r) h)))
    | .iushr => one len 1 (int2 S (fun a b r => iopK (fun x y => (x.toUInt32 >>> (y.toUInt32 &&& Int32.toUInt32 31)).toInt32) a b (fun c => go_ (pc + 1) L (.inl c :: r) h)))
    | .i2b => one len 1 (int1 S (fun a r => go_ (pc + 1) L (.inl (ib a) :: r) h))
    | .dup => one len 1 (match S with
      | a :: r => bif isL a then none else go_ (pc + 1) L (a :: a :: r) h
      | _ => none)
    | .dup2 => one len 1 (match S with
      | a :: b :: r => bif isL a || isL b then none else go_ (pc + 1) L (a :: b :: a :: b :: r) h
      | _ => none)
    | .pop => one len 1 (match S with
      | a :: r => bif isL a then none else go_ (pc + 1) L r h
      | _ => none)
    | .goto o => one len 3 (br_ (some true) pc o L S h)
    | .if_icmp c o => one len 3 (int2 S (fun a b r => br_ (cm3 c a b) pc o L r h))
    | .ifCond c o => one len 3 (int1 S (fun a r => br_ (cm3 c a (0, 0)) pc o L r h))
    | .tableswitch d lo hi os => int1 S (fun a r => bif decide (a.2 < lo) || decide (hi < a.1) then br_ (some true) pc d L r h else bif decide (a.1 = a.2) && (decide (lo ≤ a.1) && decide (a.1 ≤ hi)) then (match lg os.toList (a.1 - lo).toNat with
      | some o => br_ (some true) pc o L r h
      | none => none) else none)
    | .getfield _ => one len 3 (match S with
      | .inr (.inr (.inl i)) :: r => (match hget h i with
        | some (.inl (ci, fs)) => bif Nat.beq ci x then (match lg fs y with
          | some v => go_ (pc + 3) L (v :: r) h
          | none => none) else none
        | _ => none)
      | _ => none)
    | .putfield _ => one len 3 (match S with
      | v :: .inr (.inr (.inl i)) :: r => (match hget h i with
        | some (.inl (ci, fs)) => bif Nat.beq ci x && (fitA z v && Nat.blt y fs.length) then lsK fs y v (fun fs => hsetK h i (.inl (ci, fs)) (fun h => go_ (pc + 3) L r h)) else none
        | _ => none)
      | _ => none)
    | .new _ => one len 3 (match dfs x with
      | some fs => bif isFree h then hnewK h (.inl (x, fs)) fs.length (fun h' => go_ (pc + 3) L (.inr (.inr (.inl h.1)) :: S) h') else none
      | none => none)
    | .newarray ty => one len 2 (match akind ty with
      | some (k, w) => int1 S (fun a r => bif isFree h then ix_ a 5000 (fun n => hnewK h (.inr (k, (n, zs n w))) n (fun h' => go_ (pc + 2) L (.inr (.inr (.inl h.1)) :: r) h')) else none)
      | none => none)
    | .anewarray _ => one len 3 (int1 S (fun a r => bif isFree h then ix_ a 5000 (fun n => hnewK h (.inr (x, (n, zs n (.inr (.inr (.inr 0)))))) n (fun h' => go_ (pc + 3) L (.inr (.inr (.inl h.1)) :: r) h')) else none))
    | .arraylength => one len 1 (match S with
      | .inr (.inr (.inl i)) :: r => (match hget h i with
        | some (.inr (kd, (n, _))) => bif Nat.blt n 5001 && Nat.blt kd 6 then go_ (pc + 1) L (.inl ((n : Int), (n : Int)) :: r) h else none
        | _ => none)
      | .inr (.inr (.inr (Nat.succ Nat.zero))) :: r => (match sc with
        | some _ => go_ (pc + 1) L (.inl (6, 6) :: r) h
        | none => none)
      | _ => none)
    | .iaload => one len 1 (ald sc (fun k => Nat.beq k 1) pc L S h)
    | .baload => one len 1 (ald none (fun k => Nat.beq k 0 || Nat.beq k 3) pc L S h)
    | .laload => one len 1 (ald none (fun k => Nat.beq k 2) pc L S h)
    | .aaload => one len 1 (ald none (fun k => Nat.beq k 4 || Nat.beq k 5) pc L S h)
    | .iastore => one len 1 (ast h okI pc L S h)
    | .bastore => one len 1 (ast h okB pc L S h)
    | .lastore => one len 1 (ast h okJ pc L S h)
    | .aastore => one len 1 (ast h (okA h) pc L S h)
    | .invokevirtual _ => one len 3 (bif Nat.beq x 1 then inv P cal x y pc L S h else none)
    | .invokestatic _ => one len 3 (bif Nat.beq x 0 || (Nat.beq x 3 || (Nat.beq x 5 || Nat.beq x 6)) then inv P cal x y pc L S h else none)
    | .invokespecial _ => one len 3 (bif Nat.beq x 2 || (Nat.beq x 4 || Nat.beq x 7) then inv P cal x y pc L S h else none)
    | .ireturn => one len 1 (retA rt S h)
    | .return_ => one len 1 (retV rt S h)
    | _ => none
noncomputable def stp (P : Nat → Option MR) (cal : CAL) (sc : Option (Nat → AI)) (rt : Option FieldType) (dfs : Nat → Option (List AV)) (t : TB) (pc : Nat) (L : LO) (S : List AV) (h : AH) : Option NX := match pg t pc with
  | some (some (ins, (len, (x, (y, z))))) => stpI P cal sc rt dfs ins len x y z pc L S h
  | _ => none
/-- what a return gives -/
noncomputable def rets (rt : Option FieldType) (t : TB) (pc : Nat) (S : List AV) : Option (Option AV) := match pg t pc with
  | some (some (.ireturn, (len, _))) => bif Nat.beq len 1 then (match S with
    | [.inl a] => (match rt with
      | some .int => some (some (.inl a))
      | some .boolean => bif decide (0 ≤ a.1) && decide (a.2 ≤ 1) then some (some (.inl a)) else none
      | _ => none)
    | _ => none) else none
  | some (some (.return_, (len, _))) => bif Nat.beq len 1 then (match S, rt with
    | [], none => some none
    | _, _ => none) else none
  | _ => none
/-- a method's body -/
noncomputable def evB (P : Nat → Option MR) (cal : CAL) (sc : Option (Nat → AI)) (rt : Option FieldType) (dfs : Nat → Option (List AV)) (t : TB) : Nat → Nat → LO → List AV → AH → Option (Option AV × AH)
  | 0, _, _, _, _ => none
  | Nat.succ n, pc, L, S, h => (match stp P cal sc rt dfs t pc L S h with
    | some (.inl (pc', (L', (S', h')))) => bif Nat.ble h.1 h'.1 && Nat.ble h.2.1 h'.2.1 then evB P cal sc rt dfs t n pc' L' S' h' else none
    | some (.inr _) => (match rets rt t pc S with
      | some r => some (r, h)
      | none => none)
    | none => none)
def KWS : List Int64 := [7168366, 28832984759363956, 469920277619, 1735356260, 1870095731, 512801993331, 469853168755, 1685022067, 1651865971, 465558201459, 125780002699635, 126943972911973, 2003133803, 28530, 6385252, 7237492, 482956244324, 478744768103, 6840691, 6580580, 482955846757, 109342978500980, 431197680755, 121450625394034]
noncomputable def ktS : List (List AV) := [KWS.map (fun k => .inr (.inl (some k)))]
/-- Tokens(): two rows, what the second holds is left open -/
noncomputable def tokS (As : List AV) (h : AH) : Option (Option AV × AH) := match As with
  | [.inr (.inr (.inl i))] => (match hget h i with
    | some (.inl (c, fs)) => bif Nat.beq c 10 && (Nat.beq fs.length 14 && isFree h) then hnewK h (.inr (0, (940, zs 940 (.inl (0, 0))))) 940 (fun h1 => lsK fs 0 (.inr (.inr (.inl h.1))) (fun fs => hsetK h1 i (.inl (10, fs)) (fun h2 => bif isFree h2 then hnewK h2 (.inr (2, (24, ktS))) 24 (fun h3 => lsK fs 1 (.inr (.inr (.inl h2.1))) (fun fs => hsetK h3 i (.inl (10, fs)) (fun h4 => some (none, h4)))) else none))) else none
    | _ => none)
  | _ => none
/-- a call, of so many calls' depth -/
noncomputable def evD (P : Nat → Option MR) (dfs : Nat → Option (List AV)) (tok F : Nat) : Nat → CAL
  | 0, _, _, _ => none
  | Nat.succ d, y, As, h => bif Nat.beq y tok then (bif Nat.ble 8 d then tokS As h else none) else (match P y with
    | some (_, (_, (mL, (rt, (na, (_, t)))))) => bif Nat.beq As.length na && (Nat.ble na mL && !(As.any isL)) then evB P (evD P dfs tok F d) none rt dfs t F 0 (As.map some ++ List.replicate (mL - na) none) [] h else none
    | none => none)

/-! The instructions as functions of their own: the run is the same, a kernel has less to copy. -/
abbrev SF : Type := CAL → Option (Nat → AI) → LO → List AV → AH → Option NX
def FE (P : Nat → Option MR) (rt : Option FieldType) (dfs : Nat → Option (List AV)) (f : SF) (pc : Nat) (ins : Instr) (len x y z : Nat) : Prop := ∀ cal sc L S h, f cal sc L S h = stpI P cal sc rt dfs ins len x y z pc L S h
noncomputable def d_iconst (P : Nat → Option MR) (rt : Option FieldType) (dfs : Nat → Option (List AV)) (x y z : Nat) (n : Int) (pc : Nat) : SF := fun cal sc L S h => (fI (Int32.ofInt n).toInt (fun n => go_ (pc + 1) L (.inl (n, n) :: S) h))
theorem fe_iconst (P : Nat → Option MR) (rt : Option FieldType) (dfs : Nat → Option (List AV)) (x y z : Nat) (n : Int)  (pc : Nat) : FE P rt dfs (d_iconst P rt dfs x y z n pc) pc (.iconst n) 1 x y z := fun _ _ _ _ _ => rfl
noncomputable def d_bipush (P : Nat → Option MR) (rt : Option FieldType) (dfs : Nat → Option (List AV)) (x y z : Nat) (n : Int) (pc : Nat) : SF := fun cal sc L S h => (fI (Int8.ofInt n).toInt32.toInt (fun n => go_ (pc + 2) L (.inl (n, n) :: S) h))
theorem fe_bipush (P : Nat → Option MR) (rt : Option FieldType) (dfs : Nat → Option (List AV)) (x y z : Nat) (n : Int)  (pc : Nat) : FE P rt dfs (d_bipush P rt dfs x y z n pc) pc (.bipush n) 2 x y z := fun _ _ _ _ _ => rfl
noncomputable def d_sipush (P : Nat → Option MR) (rt : Option FieldType) (dfs : Nat → Option (List AV)) (x y z : Nat) (n : Int) (pc : Nat) : SF := fun cal sc L S h => (fI (Int16.ofInt n).toInt32.toInt (fun n => go_ (pc + 3) L (.inl (n, n) :: S) h))
theorem fe_sipush (P : Nat → Option MR) (rt : Option FieldType) (dfs : Nat → Option (List AV)) (x y z : Nat) (n : Int)  (pc : Nat) : FE P rt dfs (d_sipush P rt dfs x y z n pc) pc (.sipush n) 3 x y z := fun _ _ _ _ _ => rfl
noncomputable def d_iload_n (P : Nat → Option MR) (rt : Option FieldType) (dfs : Nat → Option (List AV)) (x y z : Nat) (k : Fin 4) (pc : Nat) : SF := fun cal sc L S h => (match ldL L k.val with
      | some (.inl a) => go_ (pc + 1) L (.inl a :: S) h
      | _ => none)
theorem fe_iload_n (P : Nat → Option MR) (rt : Option FieldType) (dfs : Nat → Option (List AV)) (x y z : Nat) (k : Fin 4)  (pc : Nat) : FE P rt dfs (d_iload_n P rt dfs x y z k pc) pc (.iload_n k) 1 x y z := fun _ _ _ _ _ => rfl
noncomputable def d_iload (P : Nat → Option MR) (rt : Option FieldType) (dfs : Nat → Option (List AV)) (x y z : Nat) (k : Nat) (pc : Nat) : SF := fun cal sc L S h => (match ldL L k with
      | some (.inl a) => go_ (pc + 2) L (.inl a :: S) h
      | _ => none)
theorem fe_iload (P : Nat → Option MR) (rt : Option FieldType) (dfs : Nat → Option (List AV)) (x y z : Nat) (k : Nat)  (pc : Nat) : FE P rt dfs (d_iload P rt dfs x y z k pc) pc (.iload k) 2 x y z := fun _ _ _ _ _ => rfl
noncomputable def d_aload_n (P : Nat → Option MR) (rt : Option FieldType) (dfs : Nat → Option (List AV)) (x y z : Nat) (k : Fin 4) (pc : Nat) : SF := fun cal sc L S h => (match ldL L k.val with
      | some (.inr (.inr r)) => go_ (pc + 1) L (.inr (.inr r) :: S) h
      | _ => none)
theorem fe_aload_n (P : Nat → Option MR) (rt : Option FieldType) (dfs : Nat → Option (List AV)) (x y z : Nat) (k : Fin 4)  (pc : Nat) : FE P rt dfs (d_aload_n P rt dfs x y z k pc) pc (.aload_n k) 1 x y z := fun _ _ _ _ _ => rfl
noncomputable def d_istore_n (P : Nat → Option MR) (rt : Option FieldType) (dfs : Nat → Option (List AV)) (x y z : Nat) (k : Fin 4) (pc : Nat) : SF := fun cal sc L S h => (match S with
      | .inl a :: r => sto L k.val (.inl a) (pc + 1) r h
      | _ => none)
theorem fe_istore_n (P : Nat → Option MR) (rt : Option FieldType) (dfs : Nat → Option (List AV)) (x y z : Nat) (k : Fin 4)  (pc : Nat) : FE P rt dfs (d_istore_n P rt dfs x y z k pc) pc (.istore_n k) 1 x y z := fun _ _ _ _ _ => rfl
noncomputable def d_istore (P : Nat → Option MR) (rt : Option FieldType) (dfs : Nat → Option (List AV)) (x y z : Nat) (k : Nat) (pc : Nat) : SF := fun cal sc L S h => (match S with
      | .inl a :: r => sto L k (.inl a) (pc + 2) r h
      | _ => none)
theorem fe_istore (P : Nat → Option MR) (rt : Option FieldType) (dfs : Nat → Option (List AV)) (x y z : Nat) (k : Nat)  (pc : Nat) : FE P rt dfs (d_istore P rt dfs x y z k pc) pc (.istore k) 2 x y z := fun _ _ _ _ _ => rfl
noncomputable def d_astore_n (P : Nat → Option MR) (rt : Option FieldType) (dfs : Nat → Option (List AV)) (x y z : Nat) (k : Fin 4) (pc : Nat) : SF := fun cal sc L S h => (match S with
      | .inr (.inr (.inl i)) :: r => sto L k.val (.inr (.inr (.inl i))) (pc + 1) r h
      | _ => none)
theorem fe_astore_n (P : Nat → Option MR) (rt : Option FieldType) (dfs : Nat → Option (List AV)) (x y z : Nat) (k : Fin 4)  (pc : Nat) : FE P rt dfs (d_astore_n P rt dfs x y z k pc) pc (.astore_n k) 1 x y z := fun _ _ _ _ _ => rfl
noncomputable def d_iinc (P : Nat → Option MR) (rt : Option FieldType) (dfs : Nat → Option (List AV)) (x y z : Nat) (k : Nat) (n : Int) (pc : Nat) : SF := fun cal sc L S h => (match ldL L k with
      | some (.inl a) => iadK a ((Int32.ofInt n).toInt, (Int32.ofInt n).toInt) (fun a => sto L k (.inl a) (pc + 3) S h)
      | _ => none)
theorem fe_iinc (P : Nat → Option MR) (rt : Option FieldType) (dfs : Nat → Option (List AV)) (x y z : Nat) (k : Nat) (n : Int)  (pc : Nat) : FE P rt dfs (d_iinc P rt dfs x y z k n pc) pc (.iinc k n) 3 x y z := fun _ _ _ _ _ => rfl
noncomputable def d_iadd (P : Nat → Option MR) (rt : Option FieldType) (dfs : Nat → Option (List AV)) (x y z : Nat)  (pc : Nat) : SF := fun cal sc L S h => (int2 S (fun a b r => iadK a b (fun c => go_ (pc + 1) L (.inl c :: r) h)))
theorem fe_iadd (P : Nat → Option MR) (rt : Option FieldType) (dfs : Nat → Option (List AV)) (x y z : Nat)   (pc : Nat) : FE P rt dfs (d_iadd P rt dfs x y z pc) pc (.iadd) 1 x y z := fun _ _ _ _ _ => rfl
noncomputable def d_isub (P : Nat → Option MR) (rt : Option FieldType) (dfs : Nat → Option (List AV)) (x y z : Nat)  (pc : Nat) : SF := fun cal sc L S h => (int2 S (fun a b r => isbK a b (fun c => go_ (pc + 1) L (.inl c :: r) h)))
theorem fe_isub (P : Nat → Option MR) (rt : Option FieldType) (dfs : Nat → Option (List AV)) (x y z : Nat)   (pc : Nat) : FE P rt dfs (d_isub P rt dfs x y z pc) pc (.isub) 1 x y z := fun _ _ _ _ _ => rfl
noncomputable def d_imul (P : Nat → Option MR) (rt : Option FieldType) (dfs : Nat → Option (List AV)) (x y z : Nat)  (pc : Nat) : SF := fun cal sc L S h => (int2 S (fun a b r => imlK a b (fun c => go_ (pc + 1) L (.inl c :: r) h)))
theorem fe_imul (P : Nat → Option MR) (rt : Option FieldType) (dfs : Nat → Option (List AV)) (x y z : Nat)   (pc : Nat) : FE P rt dfs (d_imul P rt dfs x y z pc) pc (.imul) 1 x y z := fun _ _ _ _ _ => rfl
noncomputable def d_idiv (P : Nat → Option MR) (rt : Option FieldType) (dfs : Nat → Option (List AV)) (x y z : Nat)  (pc : Nat) : SF := fun cal sc L S h => (int2 S (fun a b r => bif nZ b then iopK (fun x y => x / y) a b (fun c => go_ (pc + 1) L (.inl c :: r) h) else none))
theorem fe_idiv (P : Nat → Option MR) (rt : Option FieldType) (dfs : Nat → Option (List AV)) (x y z : Nat)   (pc : Nat) : FE P rt dfs (d_idiv P rt dfs x y z pc) pc (.idiv) 1 x y z := fun _ _ _ _ _ => rfl
noncomputable def d_irem (P : Nat → Option MR) (rt : Option FieldType) (dfs : Nat → Option (List AV)) (x y z : Nat)  (pc : Nat) : SF := fun cal sc L S h => (int2 S (fun a b r => bif nZ b then iopK (fun x y => x - x / y * y) a b (fun c => go_ (pc + 1) L (.inl c :: r) h) else none))
theorem fe_irem (P : Nat → Option MR) (rt : Option FieldType) (dfs : Nat → Option (List AV)) (x y z : Nat)   (pc : Nat) : FE P rt dfs (d_irem P rt dfs x y z pc) pc (.irem) 1 x y z := fun _ _ _ _ _ => rfl
noncomputable def d_iand (P : Nat → Option MR) (rt : Option FieldType) (dfs : Nat → Option (List AV)) (x y z : Nat)  (pc : Nat) : SF := fun cal sc L S h => (int2 S (fun a b r => iopK (fun x y => x &&& y) a b (fun c => go_ (pc + 1) L (.inl c :: r) h)))
theorem fe_iand (P : Nat → Option MR) (rt : Option FieldType) (dfs : Nat → Option (List AV)) (x y z : Nat)   (pc : Nat) : FE P rt dfs (d_iand P rt dfs x y z pc) pc (.iand) 1 x y z := fun _ _ _ _ _ => rfl
noncomputable def d_ishl (P : Nat → Option MR) (rt : Option FieldType) (dfs : Nat → Option (List AV)) (x y z : Nat)  (pc : Nat) : SF := fun cal sc L S h => (int2 S (fun a b r => iopK (fun x y => x <<< (y &&& 31)) a b (fun c => go_ (pc + 1) L (.inl c :: r) h)))
theorem fe_ishl (P : Nat → Option MR) (rt : Option FieldType) (dfs : Nat → Option (List AV)) (x y z : Nat)   (pc : Nat) : FE P rt dfs (d_ishl P rt dfs x y z pc) pc (.ishl) 1 x y z := fun _ _ _ _ _ => rfl
noncomputable def d_iushr (P : Nat → Option MR) (rt : Option FieldType) (dfs : Nat → Option (List AV)) (x y z : Nat)  (pc : Nat) : SF := fun cal sc L S h => (int2 S (fun a b r => iopK (fun x y => (x.toUInt32 >>> (y.toUInt32 &&& Int32.toUInt32 31)).toInt32) a b (fun c => go_ (pc + 1) L (.inl c :: r) h)))
theorem fe_iushr (P : Nat → Option MR) (rt : Option FieldType) (dfs : Nat → Option (List AV)) (x y z : Nat)   (pc : Nat) : FE P rt dfs (d_iushr P rt dfs x y z pc) pc (.iushr) 1 x y z := fun _ _ _ _ _ => rfl
noncomputable def d_i2b (P : Nat → Option MR) (rt : Option FieldType) (dfs : Nat → Option (List AV)) (x y z : Nat)  (pc : Nat) : SF := fun cal sc L S h => (int1 S (fun a r => go_ (pc + 1) L (.inl (ib a) :: r) h))
theorem fe_i2b (P : Nat → Option MR) (rt : Option FieldType) (dfs : Nat → Option (List AV)) (x y z : Nat)   (pc : Nat) : FE P rt dfs (d_i2b P rt dfs x y z pc) pc (.i2b) 1 x y z := fun _ _ _ _ _ => rfl
noncomputable def d_dup (P : Nat → Option MR) (rt : Option FieldType) (dfs : Nat → Option (List AV)) (x y z : Nat)  (pc : Nat) : SF := fun cal sc L S h => (match S with
      | a :: r => bif isL a then none else go_ (pc + 1) L (a :: a :: r) h
      | _ => none)
theorem fe_dup (P : Nat → Option MR) (rt : Option FieldType) (dfs : Nat → Option (List AV)) (x y z : Nat)   (pc : Nat) : FE P rt dfs (d_dup P rt dfs x y z pc) pc (.dup) 1 x y z := fun _ _ _ _ _ => rfl
noncomputable def d_dup2 (P : Nat → Option MR) (rt : Option FieldType) (dfs : Nat → Option (List AV)) (x y z : Nat)  (pc : Nat) : SF := fun cal sc L S h => (match S with
      | a :: b :: r => bif isL a || isL b then none else go_ (pc + 1) L (a :: b :: a :: b :: r) h
      | _ => none)
theorem fe_dup2 (P : Nat → Option MR) (rt : Option FieldType) (dfs : Nat → Option (List AV)) (x y z : Nat)   (pc : Nat) : FE P rt dfs (d_dup2 P rt dfs x y z pc) pc (.dup2) 1 x y z := fun _ _ _ _ _ => rfl
noncomputable def d_pop (P : Nat → Option MR) (rt : Option FieldType) (dfs : Nat → Option (List AV)) (x y z : Nat)  (pc : Nat) : SF := fun cal sc L S h => (match S with
      | a :: r => bif isL a then none else go_ (pc + 1) L r h
      | _ => none)
theorem fe_pop (P : Nat → Option MR) (rt : Option FieldType) (dfs : Nat → Option (List AV)) (x y z : Nat)   (pc : Nat) : FE P rt dfs (d_pop P rt dfs x y z pc) pc (.pop) 1 x y z := fun _ _ _ _ _ => rfl
noncomputable def d_goto (P : Nat → Option MR) (rt : Option FieldType) (dfs : Nat → Option (List AV)) (x y z : Nat) (o : Int) (pc : Nat) : SF := fun cal sc L S h => (br_ (some true) pc o L S h)
theorem fe_goto (P : Nat → Option MR) (rt : Option FieldType) (dfs : Nat → Option (List AV)) (x y z : Nat) (o : Int)  (pc : Nat) : FE P rt dfs (d_goto P rt dfs x y z o pc) pc (.goto o) 3 x y z := fun _ _ _ _ _ => rfl
noncomputable def d_if_icmp (P : Nat → Option MR) (rt : Option FieldType) (dfs : Nat → Option (List AV)) (x y z : Nat) (c : ClassFile.Cond) (o : Int) (pc : Nat) : SF := fun cal sc L S h => (int2 S (fun a b r => br_ (cm3 c a b) pc o L r h))
theorem fe_if_icmp (P : Nat → Option MR) (rt : Option FieldType) (dfs : Nat → Option (List AV)) (x y z : Nat) (c : ClassFile.Cond) (o : Int)  (pc : Nat) : FE P rt dfs (d_if_icmp P rt dfs x y z c o pc) pc (.if_icmp c o) 3 x y z := fun _ _ _ _ _ => rfl
noncomputable def d_ifCond (P : Nat → Option MR) (rt : Option FieldType) (dfs : Nat → Option (List AV)) (x y z : Nat) (c : ClassFile.Cond) (o : Int) (pc : Nat) : SF := fun cal sc L S h => (int1 S (fun a r => br_ (cm3 c a (0, 0)) pc o L r h))
theorem fe_ifCond (P : Nat → Option MR) (rt : Option FieldType) (dfs : Nat → Option (List AV)) (x y z : Nat) (c : ClassFile.Cond) (o : Int)  (pc : Nat) : FE P rt dfs (d_ifCond P rt dfs x y z c o pc) pc (.ifCond c o) 3 x y z := fun _ _ _ _ _ => rfl
noncomputable def d_tableswitch (P : Nat → Option MR) (rt : Option FieldType) (dfs : Nat → Option (List AV)) (x y z : Nat) (d : Int) (lo : Int) (hi : Int) (os : Array Int) (pc : Nat) : SF := fun cal sc L S h => int1 S (fun a r => bif decide (a.2 < lo) || decide (hi < a.1) then br_ (some true) pc d L r h else bif decide (a.1 = a.2) && (decide (lo ≤ a.1) && decide (a.1 ≤ hi)) then (match lg os.toList (a.1 - lo).toNat with
      | some o => br_ (some true) pc o L r h
      | none => none) else none)
theorem fe_tableswitch (P : Nat → Option MR) (rt : Option FieldType) (dfs : Nat → Option (List AV)) (x y z : Nat) (d : Int) (lo : Int) (hi : Int) (os : Array Int) (len : Nat) (pc : Nat) : FE P rt dfs (d_tableswitch P rt dfs x y z d lo hi os pc) pc (.tableswitch d lo hi os) len x y z := fun _ _ _ _ _ => rfl
noncomputable def d_getfield (P : Nat → Option MR) (rt : Option FieldType) (dfs : Nat → Option (List AV)) (x y z : Nat)  (pc : Nat) : SF := fun cal sc L S h => (match S with
      | .inr (.inr (.inl i)) :: r => (match hget h i with
        | some (.inl (ci, fs)) => bif Nat.beq ci x then (match lg fs y with
          | some v => go_ (pc + 3) L (v :: r) h
          | none => none) else none
        | _ => none)
      | _ => none)
theorem fe_getfield (P : Nat → Option MR) (rt : Option FieldType) (dfs : Nat → Option (List AV)) (x y z : Nat)  (i : Nat)  (pc : Nat) : FE P rt dfs (d_getfield P rt dfs x y z pc) pc (.getfield i) 3 x y z := fun _ _ _ _ _ => rfl
noncomputable def d_putfield (P : Nat → Option MR) (rt : Option FieldType) (dfs : Nat → Option (List AV)) (x y z : Nat)  (pc : Nat) : SF := fun cal sc L S h => (match S with
      | v :: .inr (.inr (.inl i)) :: r => (match hget h i with
        | some (.inl (ci, fs)) => bif Nat.beq ci x && (fitA z v && Nat.blt y fs.length) then lsK fs y v (fun fs => hsetK h i (.inl (ci, fs)) (fun h => go_ (pc + 3) L r h)) else none
        | _ => none)
      | _ => none)
theorem fe_putfield (P : Nat → Option MR) (rt : Option FieldType) (dfs : Nat → Option (List AV)) (x y z : Nat)  (i : Nat)  (pc : Nat) : FE P rt dfs (d_putfield P rt dfs x y z pc) pc (.putfield i) 3 x y z := fun _ _ _ _ _ => rfl
noncomputable def d_new (P : Nat → Option MR) (rt : Option FieldType) (dfs : Nat → Option (List AV)) (x y z : Nat)  (pc : Nat) : SF := fun cal sc L S h => (match dfs x with
      | some fs => bif isFree h then hnewK h (.inl (x, fs)) fs.length (fun h' => go_ (pc + 3) L (.inr (.inr (.inl h.1)) :: S) h') else none
      | none => none)
theorem fe_new (P : Nat → Option MR) (rt : Option FieldType) (dfs : Nat → Option (List AV)) (x y z : Nat)  (i : Nat)  (pc : Nat) : FE P rt dfs (d_new P rt dfs x y z pc) pc (.new i) 3 x y z := fun _ _ _ _ _ => rfl
noncomputable def d_newarray (P : Nat → Option MR) (rt : Option FieldType) (dfs : Nat → Option (List AV)) (x y z : Nat) (ty : ArrayType) (pc : Nat) : SF := fun cal sc L S h => (match akind ty with
      | some (k, w) => int1 S (fun a r => bif isFree h then ix_ a 5000 (fun n => hnewK h (.inr (k, (n, zs n w))) n (fun h' => go_ (pc + 2) L (.inr (.inr (.inl h.1)) :: r) h')) else none)
      | none => none)
theorem fe_newarray (P : Nat → Option MR) (rt : Option FieldType) (dfs : Nat → Option (List AV)) (x y z : Nat) (ty : ArrayType)  (pc : Nat) : FE P rt dfs (d_newarray P rt dfs x y z ty pc) pc (.newarray ty) 2 x y z := fun _ _ _ _ _ => rfl
noncomputable def d_anewarray (P : Nat → Option MR) (rt : Option FieldType) (dfs : Nat → Option (List AV)) (x y z : Nat)  (pc : Nat) : SF := fun cal sc L S h => (int1 S (fun a r => bif isFree h then ix_ a 5000 (fun n => hnewK h (.inr (x, (n, zs n (.inr (.inr (.inr 0)))))) n (fun h' => go_ (pc + 3) L (.inr (.inr (.inl h.1)) :: r) h')) else none))
theorem fe_anewarray (P : Nat → Option MR) (rt : Option FieldType) (dfs : Nat → Option (List AV)) (x y z : Nat)  (i : Nat)  (pc : Nat) : FE P rt dfs (d_anewarray P rt dfs x y z pc) pc (.anewarray i) 3 x y z := fun _ _ _ _ _ => rfl
noncomputable def d_arraylength (P : Nat → Option MR) (rt : Option FieldType) (dfs : Nat → Option (List AV)) (x y z : Nat)  (pc : Nat) : SF := fun cal sc L S h => (match S with
      | .inr (.inr (.inl i)) :: r => (match hget h i with
        | some (.inr (kd, (n, _))) => bif Nat.blt n 5001 && Nat.blt kd 6 then go_ (pc + 1) L (.inl ((n : Int), (n : Int)) :: r) h else none
        | _ => none)
      | .inr (.inr (.inr (Nat.succ Nat.zero))) :: r => (match sc with
        | some _ => go_ (pc + 1) L (.inl (6, 6) :: r) h
        | none => none)
      | _ => none)
theorem fe_arraylength (P : Nat → Option MR) (rt : Option FieldType) (dfs : Nat → Option (List AV)) (x y z : Nat)   (pc : Nat) : FE P rt dfs (d_arraylength P rt dfs x y z pc) pc (.arraylength) 1 x y z := fun _ _ _ _ _ => rfl
noncomputable def d_iaload (P : Nat → Option MR) (rt : Option FieldType) (dfs : Nat → Option (List AV)) (x y z : Nat)  (pc : Nat) : SF := fun cal sc L S h => (ald sc (fun k => Nat.beq k 1) pc L S h)
theorem fe_iaload (P : Nat → Option MR) (rt : Option FieldType) (dfs : Nat → Option (List AV)) (x y z : Nat)   (pc : Nat) : FE P rt dfs (d_iaload P rt dfs x y z pc) pc (.iaload) 1 x y z := fun _ _ _ _ _ => rfl
noncomputable def d_baload (P : Nat → Option MR) (rt : Option FieldType) (dfs : Nat → Option (List AV)) (x y z : Nat)  (pc : Nat) : SF := fun cal sc L S h => (ald none (fun k => Nat.beq k 0 || Nat.beq k 3) pc L S h)
theorem fe_baload (P : Nat → Option MR) (rt : Option FieldType) (dfs : Nat → Option (List AV)) (x y z : Nat)   (pc : Nat) : FE P rt dfs (d_baload P rt dfs x y z pc) pc (.baload) 1 x y z := fun _ _ _ _ _ => rfl
noncomputable def d_laload (P : Nat → Option MR) (rt : Option FieldType) (dfs : Nat → Option (List AV)) (x y z : Nat)  (pc : Nat) : SF := fun cal sc L S h => (ald none (fun k => Nat.beq k 2) pc L S h)
theorem fe_laload (P : Nat → Option MR) (rt : Option FieldType) (dfs : Nat → Option (List AV)) (x y z : Nat)   (pc : Nat) : FE P rt dfs (d_laload P rt dfs x y z pc) pc (.laload) 1 x y z := fun _ _ _ _ _ => rfl
noncomputable def d_aaload (P : Nat → Option MR) (rt : Option FieldType) (dfs : Nat → Option (List AV)) (x y z : Nat)  (pc : Nat) : SF := fun cal sc L S h => (ald none (fun k => Nat.beq k 4 || Nat.beq k 5) pc L S h)
theorem fe_aaload (P : Nat → Option MR) (rt : Option FieldType) (dfs : Nat → Option (List AV)) (x y z : Nat)   (pc : Nat) : FE P rt dfs (d_aaload P rt dfs x y z pc) pc (.aaload) 1 x y z := fun _ _ _ _ _ => rfl
noncomputable def d_iastore (P : Nat → Option MR) (rt : Option FieldType) (dfs : Nat → Option (List AV)) (x y z : Nat)  (pc : Nat) : SF := fun cal sc L S h => (ast h okI pc L S h)
theorem fe_iastore (P : Nat → Option MR) (rt : Option FieldType) (dfs : Nat → Option (List AV)) (x y z : Nat)   (pc : Nat) : FE P rt dfs (d_iastore P rt dfs x y z pc) pc (.iastore) 1 x y z := fun _ _ _ _ _ => rfl
noncomputable def d_bastore (P : Nat → Option MR) (rt : Option FieldType) (dfs : Nat → Option (List AV)) (x y z : Nat)  (pc : Nat) : SF := fun cal sc L S h => (ast h okB pc L S h)
theorem fe_bastore (P : Nat → Option MR) (rt : Option FieldType) (dfs : Nat → Option (List AV)) (x y z : Nat)   (pc : Nat) : FE P rt dfs (d_bastore P rt dfs x y z pc) pc (.bastore) 1 x y z := fun _ _ _ _ _ => rfl
noncomputable def d_lastore (P : Nat → Option MR) (rt : Option FieldType) (dfs : Nat → Option (List AV)) (x y z : Nat)  (pc : Nat) : SF := fun cal sc L S h => (ast h okJ pc L S h)
theorem fe_lastore (P : Nat → Option MR) (rt : Option FieldType) (dfs : Nat → Option (List AV)) (x y z : Nat)   (pc : Nat) : FE P rt dfs (d_lastore P rt dfs x y z pc) pc (.lastore) 1 x y z := fun _ _ _ _ _ => rfl
noncomputable def d_aastore (P : Nat → Option MR) (rt : Option FieldType) (dfs : Nat → Option (List AV)) (x y z : Nat)  (pc : Nat) : SF := fun cal sc L S h => (ast h (okA h) pc L S h)
theorem fe_aastore (P : Nat → Option MR) (rt : Option FieldType) (dfs : Nat → Option (List AV)) (x y z : Nat)   (pc : Nat) : FE P rt dfs (d_aastore P rt dfs x y z pc) pc (.aastore) 1 x y z := fun _ _ _ _ _ => rfl
noncomputable def d_invokevirtual (P : Nat → Option MR) (rt : Option FieldType) (dfs : Nat → Option (List AV)) (x y z : Nat)  (pc : Nat) : SF := fun cal sc L S h => (bif Nat.beq x 1 then inv P cal x y pc L S h else none)
theorem fe_invokevirtual (P : Nat → Option MR) (rt : Option FieldType) (dfs : Nat → Option (List AV)) (x y z : Nat)  (i : Nat)  (pc : Nat) : FE P rt dfs (d_invokevirtual P rt dfs x y z pc) pc (.invokevirtual i) 3 x y z := fun _ _ _ _ _ => rfl
noncomputable def d_invokestatic (P : Nat → Option MR) (rt : Option FieldType) (dfs : Nat → Option (List AV)) (x y z : Nat)  (pc : Nat) : SF := fun cal sc L S h => (bif Nat.beq x 0 || (Nat.beq x 3 || (Nat.beq x 5 || Nat.beq x 6)) then inv P cal x y pc L S h else none)
theorem fe_invokestatic (P : Nat → Option MR) (rt : Option FieldType) (dfs : Nat → Option (List AV)) (x y z : Nat)  (i : Nat)  (pc : Nat) : FE P rt dfs (d_invokestatic P rt dfs x y z pc) pc (.invokestatic i) 3 x y z := fun _ _ _ _ _ => rfl
noncomputable def d_invokespecial (P : Nat → Option MR) (rt : Option FieldType) (dfs : Nat → Option (List AV)) (x y z : Nat)  (pc : Nat) : SF := fun cal sc L S h => (bif Nat.beq x 2 || (Nat.beq x 4 || Nat.beq x 7) then inv P cal x y pc L S h else none)
theorem fe_invokespecial (P : Nat → Option MR) (rt : Option FieldType) (dfs : Nat → Option (List AV)) (x y z : Nat)  (i : Nat)  (pc : Nat) : FE P rt dfs (d_invokespecial P rt dfs x y z pc) pc (.invokespecial i) 3 x y z := fun _ _ _ _ _ => rfl
noncomputable def d_ireturn (P : Nat → Option MR) (rt : Option FieldType) (dfs : Nat → Option (List AV)) (x y z : Nat)  (pc : Nat) : SF := fun cal sc L S h => (retA rt S h)
theorem fe_ireturn (P : Nat → Option MR) (rt : Option FieldType) (dfs : Nat → Option (List AV)) (x y z : Nat)   (pc : Nat) : FE P rt dfs (d_ireturn P rt dfs x y z pc) pc (.ireturn) 1 x y z := fun _ _ _ _ _ => rfl
noncomputable def d_return_ (P : Nat → Option MR) (rt : Option FieldType) (dfs : Nat → Option (List AV)) (x y z : Nat)  (pc : Nat) : SF := fun cal sc L S h => (retV rt S h)
theorem fe_return_ (P : Nat → Option MR) (rt : Option FieldType) (dfs : Nat → Option (List AV)) (x y z : Nat)   (pc : Nat) : FE P rt dfs (d_return_ P rt dfs x y z pc) pc (.return_) 1 x y z := fun _ _ _ _ _ => rfl
abbrev FB : Type := List (List (Option SF))
abbrev FR : Type := Nat × (Option FieldType × (Nat × (FB × TB)))
noncomputable def evF (cal : CAL) (sc : Option (Nat → AI)) (rt : Option FieldType) (f : FB) (t : TB) (n : Nat) : Nat → LO → List AV → AH → Option (Option AV × AH) := Nat.rec (motive := fun _ => Nat → LO → List AV → AH → Option (Option AV × AH)) (fun _ _ _ _ => none) (fun _ ih pc L S h => match pg f pc with
  | some (some g) => (match g cal sc L S h with
    | some (.inl (pc', (L', (S', h')))) => bif Nat.ble h.1 h'.1 && Nat.ble h.2.1 h'.2.1 then ih pc' L' S' h' else none
    | some (.inr _) => (match rets rt t pc S with
      | some r => some (r, h)
      | none => none)
    | none => none)
  | _ => none) n
noncomputable def evG (FP : Nat → Option FR) (tok F : Nat) (d : Nat) : CAL := Nat.rec (motive := fun _ => CAL) (fun _ _ _ => none) (fun d ih y As h => bif Nat.beq y tok then (bif Nat.ble 8 d then tokS As h else none) else (match FP y with
  | some (mL, (rt, (na, (f, t)))) => bif Nat.beq As.length na && (Nat.ble na mL && !(As.any isL)) then evF ih none rt f t F 0 (As.map some ++ List.replicate (mL - na) none) [] h else none
  | none => none)) d
def okFt (P : Nat → Option MR) (rt : Option FieldType) (dfs : Nat → Option (List AV)) (f : FB) (t : TB) : Prop := ∀ (pc : Nat) (g : SF), pg f pc = some (some g) → ∃ ins len x y z, pg t pc = some (some (ins, (len, (x, (y, z))))) ∧ FE P rt dfs g pc ins len x y z
theorem evF_ok {P : Nat → Option MR} {cal cal2 : CAL} {sc : Option (Nat → AI)} {rt : Option FieldType} {dfs : Nat → Option (List AV)} {f : FB} {t : TB} (hf : okFt P rt dfs f t) (hc : cal = cal2) {r : Option AV × AH} : ∀ {n pc : Nat} {L : LO} {S : List AV} {h : AH}, evF cal sc rt f t n pc L S h = some r → evB P cal2 sc rt dfs t n pc L S h = some r
  | 0, _, _, _, _, hz => by cases hz
  | n + 1, pc, L, S, h, hz => by
    subst hc
    have hz : (match pg f pc with
      | some (some g) => (match g cal sc L S h with
        | some (.inl (pc', (L', (S', h')))) => bif Nat.ble h.1 h'.1 && Nat.ble h.2.1 h'.2.1 then evF cal sc rt f t n pc' L' S' h' else none
        | some (.inr _) => (match rets rt t pc S with
          | some r => some (r, h)
          | none => none)
        | none => none)
      | _ => none) = some r := hz
    cases hp : pg f pc with
    | none => rw [hp] at hz; cases hz
    | some o =>
    cases o with
    | none => rw [hp] at hz; cases hz
    | some g =>
    obtain ⟨ins, len, x, y, z, ht, hg⟩ := hf pc g hp
    have hst : stp P cal sc rt dfs t pc L S h = g cal sc L S h := by
      unfold stp
      rw [ht]
      exact (hg cal sc L S h).symm
    rw [hp] at hz
    simp only [] at hz
    unfold evB
    rw [hst]
    cases hv : g cal sc L S h with
    | none => rw [hv] at hz; cases hz
    | some w =>
      rw [hv] at hz
      cases w with
      | inr q => exact hz
      | inl q =>
        obtain ⟨pc', L', S', h'⟩ := q
        simp only [] at hz ⊢
        cases hb : (Nat.ble h.1 h'.1 && Nat.ble h.2.1 h'.2.1) with
        | false => rw [hb] at hz; cases hz
        | true =>
          rw [hb] at hz
          exact evF_ok hf rfl (n := n) hz
def okG (P : Nat → Option MR) (dfs : Nat → Option (List AV)) (FP : Nat → Option FR) : Prop := ∀ (y : Nat) (q : FR), FP y = some q → ∃ yn bytes ci, P y = some (yn, (bytes, (q.1, (q.2.1, (q.2.2.1, (ci, q.2.2.2.2)))))) ∧ okFt P q.2.1 dfs q.2.2.2.1 q.2.2.2.2
/-- what the fast run says, the slow one says -/
def le_ (c1 c2 : CAL) : Prop := ∀ y As h r, c1 y As h = some r → c2 y As h = some r


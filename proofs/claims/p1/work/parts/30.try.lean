def hp0 : AH := (0, (0, List.replicate 7 (List.replicate 32 none)))
noncomputable def cal0 : CAL := evG FM 7 100000 12
noncomputable def mkS {β : Type} (k : AH → Option β) : Option β := hnewK hp0 (.inl (11, (DF 11).getD [])) 18 (fun h => match cal0 30 [.inr (.inr (.inl 0))] h with
  | some (_, h) => hnewK h (.inl (12, (DF 12).getD [])) 53 (fun h => match cal0 80 [.inr (.inr (.inl 173))] h with
    | some (_, h) => hnewK h (.inr (2, (1, zs 1 (.inr (.inl (some 0)))))) 1 k
    | none => none)
  | none => none)
noncomputable def lawR (pc : Nat) (f : Nat → AI) (h : AH) : Option (Option AV × AH) := evF cal0 (some f) (some .boolean) ft_L_law tb_L_law 1000 pc [some (.inr (.inr (.inr 1))), some (.inr (.inr (.inl 0))), some (.inr (.inr (.inl 173))), some (.inr (.inr (.inl 198))), some (.inl (0, 0)), none, none] [] h
def isOne (r : Option (Option AV × AH)) : Option Unit := match r with
  | some (some (.inl a), _) => bif decide (a = (1, 1)) then some () else none
  | _ => none
def fT : Nat → AI := fun _ => iTop
theorem try_2 : (mkS (fun h => isOne (lawR 322 fT h))).isSome = true := by decide +kernel
def fW (n : Int) : Nat → AI := fun j => bif Nat.beq j 1 then (n, n) else iTop
theorem try_3 : (mkS (fun h => isOne (lawR 811 (fW 30) h))).isSome = true := by decide +kernel

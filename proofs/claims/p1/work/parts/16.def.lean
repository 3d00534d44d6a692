/-! The law as the computing walk sees it, and how its runs end. -/
def scS (j : Nat) : AV := .inr (.inr (.retAddr (10 + j)))
def scK (k : Nat) (j : Nat) : AV := match j with
  | 0 => scS 0
  | q + 1 => match q with
    | 0 => .inl k
    | _ => scS j
def sy0 (a : AV) : Bool := match a with
  | .inl _ => false
  | .inr (.inl _) => false
  | .inr (.inr v) => match v with
    | .retAddr c => Nat.beq c 10
    | _ => false
/-- the first int's last four bits, told ahead -/
def q_and15 (k n : Nat) : PF := fun L st => match st with
  | [] => none
  | a :: t => match a with
    | .inr _ => none
    | .inl x => match t with
      | [] => none
      | b :: r => match Nat.beq x 15 && sy0 b with
        | true => some (n, L, .inl k :: r)
        | false => none
def syC (a : AV) : Option Nat := match a with
  | .inl _ => none
  | .inr (.inl _) => none
  | .inr (.inr v) => match v with
    | .retAddr k => match Nat.ble 10 k with
      | true => some (k - 10)
      | false => none
    | _ => none
def itC (a : AV) : Option Nat := match a with
  | .inl n => some n
  | .inr _ => none
def bEq (a b : Bool) : Bool := match a with
  | true => b
  | false => !b
/-- what was asked is among what is known -/
def csM (A : List (Nat × Nat × Nat × Bool)) (q : Nat × AV × AV × Bool) : Bool := match syC q.2.1 with
  | none => false
  | some j => match itC q.2.2.1 with
    | none => false
    | some n => A.any (fun x => Nat.beq x.1 q.1 && (Nat.beq x.2.1 j && (Nat.beq x.2.2.1 n && bEq x.2.2.2 q.2.2.2)))
def is1 (st : List AV) : Bool := match st with
  | [] => false
  | a :: r => match a with
    | .inr _ => false
    | .inl x => match r with
      | [] => Nat.beq x 1
      | _ :: _ => false
/-- the law's end, with 1 on the stack, in its room -/
def fin (A : List (Nat × Nat × Nat × Bool)) (c : Option Cfg) : Bool := match c with
  | none => false
  | some (pc, _, st, _, k, z, _, cs) => Nat.beq pc 625 && (is1 st && (Nat.ble k 600002 && (Nat.ble z 7302232 && cs.all (csM A))))
/-- the law's own helpers, which catch what is thrown: where nothing is -/
def hCall (P : List (Nat × FF)) (pe ml nf : Nat) : CallF := fun _ fr lo av h o cs => match Nat.ble (slen av) ml with
  | false => none
  | true => match run MM nf P fr lo (0, argsA 0 av, [], h, 0, 0, o, cs) with
    | none => none
    | some (pc, _, st, h', k, z, o', cs') => match Nat.beq pc pe with
      | false => none
      | true => match st with
        | [] => none
        | a :: r => match r with
          | _ :: _ => none
          | [] => match isI a with
            | true => some (some a, h', k, z, o', cs')
            | false => none
def NF : Nat := 6000
def s_hlp (P : List (Nat × FF)) (pe np ml w n : Nat) : FF := fun _ fr lo c => match c with
  | (_, L, st, h, k, z, o, cs) => match popN np st [] with
    | none => none
    | some (as, r) => goC (hCall P pe ml NF) 0 fr lo w n L as r h k z o cs
def PLW (L0 : Nat) (sc : Nat → AV) (k : Nat) : List (Nat × FF) := PLA L0 sc ++ (39, lf (q_and15 k 40)) :: (206, s_hlp PH_add 15 2 3 22 209) :: (377, s_hlp PH_search 15 2 3 22 380) :: PLB L0 sc
def lawC (o : List Bool) : Cfg := (0, [(0, .inr (.inr (.float 90)))], [], [], 0, 0, o, [])
/-- a helper that catches what the class throws, and the law's end behind it -/
def emp (st : List AV) : Bool := match st with
  | [] => true
  | _ :: _ => false
def remT (A : List (Nat × Nat × Nat × Bool)) (c1 : Option Cfg) (pcL np ml : Nat) (PH : List (Nat × FF)) (pcC npx mlx : Nat) (PX : List (Nat × FF)) (pcT : Nat) : Bool := match c1 with
  | none => false
  | some (p1, L1, st1, h1, k1, z1, o1, cs1) => match popN np st1 [] with
    | none => false
    | some (as1, r1) => match run MM NF PH 14 (573 - ml) (0, argsA 0 as1, [], h1, 0, 0, o1, cs1) with
      | none => false
      | some (p2, L2, st2, h2, k2, z2, o2, cs2) => match popN npx st2 [] with
        | none => false
        | some (as2, r2) => match r2 with
          | [] => false
          | a :: r3 => match rOf a with
            | none => false
            | some q => match h2[q]? with
              | none => false
              | some ce => match ce with
                | .inl _ => false
                | .inr cf => match run MM NF PX 13 (554 - ml - mlx) (0, argsA 0 (a :: as2), [], h2, 0, 0, o2, cs2) with
                  | none => false
                  | some (p3, _, st3, h3, k3, z3, o3, cs3) => Nat.beq cf.1 9 && (Nat.beq p1 pcL && (Nat.ble (slen r1) 8 && (Nat.ble (slen as1) ml && (Nat.beq p2 pcC && (Nat.ble (slen r3) 8 && (Nat.ble (slen (a :: as2)) mlx && (Nat.beq p3 pcT && (emp st3 && (Nat.ble h2.length h3.length &&
                    fin A (run MM2 NF (PLC 6 scS) 15 592 (pcL + 3, L1, .inl 1 :: r1, h3, k1 + (k2 + (k3 + 1)), z1 + (z2 + (z3 + 6)), o3, cs3)))))))))))


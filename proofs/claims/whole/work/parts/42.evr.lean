/-! the reference's evaluation, as a function: lf tells a leaf's worth -/
def evR (ops args : Nat → Int) (lf : Int → Int → Int) (last : Nat) : Nat → Nat → List Int → Option (List Int)
  | 0, _, stk => some stk
  | f + 1, k, stk =>
    if last ≤ k then some stk
    else if ops k < 20 then evR ops args lf last f (k + 1) (lf (ops k) (args k) :: stk)
    else if ops k < 28 then
      (match stk with
        | y :: x :: r => if ((ops k = 23 ∨ ops k = 24) ∧ y = 0) ∨ sp_rkV (ops k) x y < -1000000000 ∨ 1000000000 < sp_rkV (ops k) x y then none else evR ops args lf last f (k + 1) (sp_rkV (ops k) x y :: r)
        | _ => none)
    else
      (match stk with
        | [] => none
        | x :: r => if ops k = 28 then evR ops args lf last f (k + 1) ((1 - x) :: r) else if x = (if ops k = 29 then 0 else 1) then evR ops args lf last f (args k).toNat (x :: r) else evR ops args lf last f (k + 1) r)
/-- a leaf of a law: a number, or what is asked -/
def lfL (v : Nat → Int) (op arg : Int) : Int := if op = 0 then arg else v (op - 1).toNat

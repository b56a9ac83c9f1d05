/-! the reference's evaluation: none = stuck (never met), some none = broken -/
def evS (ops args : Nat → Int) (lf : Int → Int → Option Int) (last : Nat) : Nat → Nat → List Int → Option (Option (List Int))
  | 0, _, _ => none
  | f + 1, k, stk =>
    if last ≤ k then some (some stk)
    else if ops k < 20 then (match lf (ops k) (args k) with
      | none => none
      | some x => evS ops args lf last f (k + 1) (x :: stk))
    else if ops k < 28 then
      (match stk with
        | y :: x :: r => if ((ops k = 23 ∨ ops k = 24) ∧ y = 0) ∨ sp_rkV (ops k) x y < -1000000000 ∨ 1000000000 < sp_rkV (ops k) x y then some none else evS ops args lf last f (k + 1) (sp_rkV (ops k) x y :: r)
        | _ => none)
    else
      (match stk with
        | [] => none
        | x :: r => if ops k = 28 then evS ops args lf last f (k + 1) ((1 - x) :: r) else if x = (if ops k = 29 then 0 else 1) then (if (k : Int) < args k ∧ args k ≤ last then evS ops args lf last f (args k).toNat (x :: r) else none) else evS ops args lf last f (k + 1) r)
section EVS
variable {ops args : Nat → Int} {lf : Int → Int → Option Int} {last f k : Nat} {stk : List Int} {res : Option (List Int)}
theorem evS_last (h : last ≤ k) (he : evS ops args lf last f k stk = some res) : res = some stk := by
  cases f with
  | zero => cases he
  | succ f => simp only [evS] at he; rw [if_pos h] at he; exact (Option.some.inj he).symm
theorem evS_leaf (h : k < last) (ho : ops k < 20) (he : evS ops args lf last f k stk = some res) : ∃ f' x, f = f' + 1 ∧ lf (ops k) (args k) = some x ∧ evS ops args lf last f' (k + 1) (x :: stk) = some res := by
  cases f with
  | zero => cases he
  | succ f =>
    simp only [evS] at he; rw [if_neg (by omega), if_pos ho] at he
    cases hl : lf (ops k) (args k) with
    | none => rw [hl] at he; cases he
    | some x => rw [hl] at he; exact ⟨f, x, rfl, rfl, he⟩
theorem evS_bin (h : k < last) (ho : 20 ≤ ops k) (h2 : ops k < 28) (he : evS ops args lf last f k stk = some res) : ∃ f' y x r, f = f' + 1 ∧ stk = y :: x :: r ∧ (((((ops k = 23 ∨ ops k = 24) ∧ y = 0) ∨ sp_rkV (ops k) x y < -1000000000 ∨ 1000000000 < sp_rkV (ops k) x y) ∧ res = none) ∨ (¬ (((ops k = 23 ∨ ops k = 24) ∧ y = 0) ∨ sp_rkV (ops k) x y < -1000000000 ∨ 1000000000 < sp_rkV (ops k) x y) ∧ evS ops args lf last f' (k + 1) (sp_rkV (ops k) x y :: r) = some res)) := by
  cases f with
  | zero => cases he
  | succ f =>
    simp only [evS] at he; rw [if_neg (by omega), if_neg (by omega), if_pos h2] at he
    match stk, he with
    | [], he => cases he
    | [_], he => cases he
    | y :: x :: r, he =>
      refine ⟨f, y, x, r, rfl, rfl, ?_⟩
      dsimp only at he
      split at he
      · rename_i hc; exact Or.inl ⟨hc, (Option.some.inj he).symm⟩
      · rename_i hc; exact Or.inr ⟨hc, he⟩
theorem evS_not (h : k < last) (ho : ops k = 28) (he : evS ops args lf last f k stk = some res) : ∃ f' x r, f = f' + 1 ∧ stk = x :: r ∧ evS ops args lf last f' (k + 1) ((1 - x) :: r) = some res := by
  cases f with
  | zero => cases he
  | succ f =>
    simp only [evS] at he; rw [if_neg (by omega), if_neg (by omega), if_neg (by omega)] at he
    match stk, he with
    | [], he => cases he
    | x :: r, he =>
      refine ⟨f, x, r, rfl, rfl, ?_⟩
      dsimp only at he
      rw [if_pos ho] at he
      exact he
theorem evS_jmp (h : k < last) (ho : 28 < ops k) (he : evS ops args lf last f k stk = some res) : ∃ f' x r, f = f' + 1 ∧ stk = x :: r ∧ ((x = (if ops k = 29 then 0 else 1) ∧ (k : Int) < args k ∧ args k ≤ last ∧ evS ops args lf last f' (args k).toNat (x :: r) = some res) ∨ (x ≠ (if ops k = 29 then 0 else 1) ∧ evS ops args lf last f' (k + 1) r = some res)) := by
  cases f with
  | zero => cases he
  | succ f =>
    simp only [evS] at he; rw [if_neg (by omega), if_neg (by omega), if_neg (by omega)] at he
    match stk, he with
    | [], he => cases he
    | x :: r, he =>
      refine ⟨f, x, r, rfl, rfl, ?_⟩
      dsimp only at he
      rw [if_neg (by omega)] at he
      by_cases hx : x = (if ops k = 29 then 0 else 1)
      · rw [if_pos hx] at he
        split at he
        · rename_i hc; exact Or.inl ⟨hx, hc.1, hc.2, he⟩
        · cases he
      · rw [if_neg hx] at he
        exact Or.inr ⟨hx, he⟩
end EVS
/-- a stack as a list, its top first -/
def lsOK (g : Nat → Int) (stk : List Int) : Prop := ∀ j, j < stk.length → g j = stk.reverse.getD j 0
theorem ls_top {g : Nat → Int} {x : Int} {r : List Int} (h : lsOK g (x :: r)) : g r.length = x := by
  rw [h r.length (by simp), List.getD_eq_getElem?_getD, List.reverse_cons, List.getElem?_append_right (by simp)]
  simp
theorem ls_pop {g : Nat → Int} {x : Int} {r : List Int} (h : lsOK g (x :: r)) : lsOK g r := by
  intro j hj
  rw [h j (by simp; omega), List.getD_eq_getElem?_getD, List.getD_eq_getElem?_getD, List.reverse_cons, List.getElem?_append_left (by simp; exact hj)]
theorem ls_push {g g2 : Nat → Int} {x : Int} {r : List Int} (h : lsOK g r) (hx : g2 r.length = x) (hg : ∀ j, j < r.length → g2 j = g j) : lsOK g2 (x :: r) := by
  intro j hj
  rw [List.getD_eq_getElem?_getD, List.reverse_cons]
  by_cases q : j = r.length
  · subst q
    rw [hx, List.getElem?_append_right (by simp)]
    simp
  · have hj2 : j < r.length := by simp at hj; omega
    rw [hg j hj2, h j hj2, List.getElem?_append_left (by simp; exact hj2), ← List.getD_eq_getElem?_getD]
theorem up_self {M : Nat → Nat → Int} {a i : Nat} {x : Int} : px_up M a i x a = fun j => if j = i then x else M a j := by funext j; exact ask_up
theorem up_s {M : Nat → Nat → Int} {a i : Nat} {x : Int} : px_up M a i x a i = x := by rw [ask_up, if_pos rfl]
theorem up_ne {M : Nat → Nat → Int} {a i j : Nat} {x : Int} (h : j ≠ i) : px_up M a i x a j = M a j := by rw [ask_up, if_neg h]
theorem rr_q {sh : List (Nat × Nat)} {A : List Nat} {M M2 : Nat → Nat → Int} (q : px_qk sh A M M2) (h : 230 ∉ A) : rr_ M2 = rr_ M := rr_eq (q.2.2 230 h)

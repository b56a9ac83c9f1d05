/-! what code means, in the class and in the reference -/
theorem evC_s (o a w : Nat → Int) (nv f i : Nat) (rs : Int) (stk : List Int) : evC o a w nv (f + 1) i rs stk = (if (i : Int) < rs then evC o a w nv f (i + 1) rs stk
    else if o i = 0 ∨ o i = 1 then
      (if 51 ≤ stk.length ∨ (o i = 1 ∧ (nv : Int) ≤ a i) then none else evC o a w nv f (i + 1) rs ((if o i = 0 then a i else w (a i).toNat) :: stk))
    else if o i ≤ 4 then
      (match stk with
        | [] => none
        | x :: r => if o i = 2 then evC o a w nv f (i + 1) rs ((1 - x) :: r) else if (x = 1 ∧ o i = 4) ∨ (¬ x = 1 ∧ ¬ o i = 4) then evC o a w nv f (i + 1) (a i) (x :: r) else evC o a w nv f (i + 1) rs r)
    else
      (match stk with
        | y :: x :: r => if 1000000000 < sp_join (o i) x y ∨ sp_join (o i) x y < -1000000000 then none else evC o a w nv f (i + 1) rs (sp_join (o i) x y :: r)
        | _ => none)) := rfl
theorem evS_s (o a : Nat → Int) (lf : Int → Int → Option Int) (last f k : Nat) (stk : List Int) : evS o a lf last (f + 1) k stk = (if last ≤ k then some (some stk)
    else if o k < 20 then (match lf (o k) (a k) with
      | none => none
      | some x => evS o a lf last f (k + 1) (x :: stk))
    else if o k < 28 then
      (match stk with
        | y :: x :: r => if ((o k = 23 ∨ o k = 24) ∧ y = 0) ∨ sp_rkV (o k) x y < -1000000000 ∨ 1000000000 < sp_rkV (o k) x y then some none else evS o a lf last f (k + 1) (sp_rkV (o k) x y :: r)
        | _ => none)
    else
      (match stk with
        | [] => none
        | x :: r => if o k = 28 then evS o a lf last f (k + 1) ((1 - x) :: r) else if x = (if o k = 29 then 0 else 1) then (if (k : Int) < a k ∧ a k ≤ last then evS o a lf last f (a k).toNat (x :: r) else none) else evS o a lf last f (k + 1) r)) := rfl
theorem evC_rs {o a w : Nat → Int} {nv : Nat} : ∀ f i r1 r2 stk, r1 ≤ ((i : Nat) : Int) → r2 ≤ ((i : Nat) : Int) → evC o a w nv f i r1 stk = evC o a w nv f i r2 stk := by
  intro f
  induction f with
  | zero => intro i r1 r2 stk _ _; rfl
  | succ f ih =>
    intro i r1 r2 stk h1 h2
    rw [evC_s, evC_s, if_neg (show ¬ ((i : Nat) : Int) < r1 by omega), if_neg (show ¬ ((i : Nat) : Int) < r2 by omega)]
    have e : ∀ st, evC o a w nv f (i + 1) r1 st = evC o a w nv f (i + 1) r2 st := fun st => ih (i + 1) r1 r2 st (by omega) (by omega)
    simp only [e]
theorem evC_skip {o a w : Nat → Int} {nv : Nat} {t : Nat} {stk : List Int} : ∀ n i k, i + n = t → evC o a w nv (n + k) i ((t : Nat) : Int) stk = evC o a w nv k t 0 stk := by
  intro n
  induction n with
  | zero => intro i k h; rw [Nat.zero_add, show i = t by omega]; exact evC_rs k t _ _ stk (Int.le_refl _) (by omega)
  | succ n ih =>
    intro i k h
    rw [show n + 1 + k = (n + k) + 1 by omega, evC_s, if_pos (by omega)]
    exact ih (i + 1) k (by omega)
def nvE (od : Int) : Nat := if od = 1 then 59 else 12
def bndE (od : Int) (v : Nat → Int) : Prop := ∀ j, j < nvE od → -1000000000 ≤ v j ∧ v j ≤ 1000000000
def agr (od ab : Int) (v w : Nat → Int) : Prop := ∀ j, j < nvE od → (j = 4 ∧ od = 1 ∧ ab = 0) ∨ w j = v j
noncomputable def lfE (od : Int) (v : Nat → Int) : Int → Int → Option Int := if od = 1 then lfO v else lfL2 v
/-- the code from x to y means f, in the class; m leaves -/
def cM (od ab : Int) (o a : Nat → Int) (x y m : Nat) (f : sp_E → Option Int) : Prop := x ≤ y ∧ ∀ o2 a2 : Nat → Int, (∀ j, x ≤ j → j < y → o2 j = o j ∧ a2 j = a j) → ∀ v w stk, bndE od v → agr od ab v w → stk.length + m ≤ 51 → ∀ k, evC o2 a2 w (nvE od) ((y - x) + k) x 0 stk = (match f v with
    | none => none
    | some z => evC o2 a2 w (nvE od) k y 0 (z :: stk))
/-- and in the reference -/
def rM (od : Int) (o a : Nat → Int) (x y : Nat) (f : sp_E → Option Int) : Prop := x ≤ y ∧ ∀ o2 a2 : Nat → Int, (∀ j, x ≤ j → j < y → o2 j = o j ∧ a2 j = a j) → ∀ v last stk, bndE od v → y ≤ last → (match f v with
    | none => ∃ fu, evS o2 a2 (lfE od v) last fu x stk = some none
    | some z => ∀ fu res, evS o2 a2 (lfE od v) last fu y (z :: stk) = some res → ∃ fu', evS o2 a2 (lfE od v) last fu' x stk = some res)
theorem cM_fr {od ab : Int} {o a o2 a2 : Nat → Int} {x y m : Nat} {f : sp_E → Option Int} (h : cM od ab o a x y m f) (e : ∀ j, x ≤ j → j < y → o2 j = o j ∧ a2 j = a j) : cM od ab o2 a2 x y m f := ⟨h.1, fun o3 a3 e3 => h.2 o3 a3 (fun j h1 h2 => ⟨(e3 j h1 h2).1.trans (e j h1 h2).1, (e3 j h1 h2).2.trans (e j h1 h2).2⟩)⟩
theorem rM_fr {od : Int} {o a o2 a2 : Nat → Int} {x y : Nat} {f : sp_E → Option Int} (h : rM od o a x y f) (e : ∀ j, x ≤ j → j < y → o2 j = o j ∧ a2 j = a j) : rM od o2 a2 x y f := ⟨h.1, fun o3 a3 e3 => h.2 o3 a3 (fun j h1 h2 => ⟨(e3 j h1 h2).1.trans (e j h1 h2).1, (e3 j h1 h2).2.trans (e j h1 h2).2⟩)⟩
theorem cM_ab {od ab ab2 : Int} {o a : Nat → Int} {x y m : Nat} {f : sp_E → Option Int} (h : cM od ab o a x y m f) (hab : ab2 = ab ∨ ab = 0) : cM od ab2 o a x y m f := ⟨h.1, fun o2 a2 e v w stk hb hg => h.2 o2 a2 e v w stk hb (fun j hj => by
  rcases hg j hj with z | z
  · rcases hab with y | y
    · exact Or.inl ⟨z.1, z.2.1, by rw [← y]; exact z.2.2⟩
    · exact Or.inl ⟨z.1, z.2.1, y⟩
  · exact Or.inr z)⟩
def fB (od : Int) (f : sp_E → Option Int) : Prop := ∀ v z, bndE od v → f v = some z → -1000000000 ≤ z ∧ z ≤ 1000000000
def fT (od : Int) (f : sp_E → Option Int) : Prop := ∀ v z, bndE od v → f v = some z → z = 0 ∨ z = 1
/-- two sums joined by the class's operator c (the reference's is c + 15) -/
def bn (c : Int) (f g : sp_E → Option Int) : sp_E → Option Int := fun v => match f v with
  | none => none
  | some x => match g v with
    | none => none
    | some y => if 1000000000 < sp_join c x y ∨ sp_join c x y < -1000000000 then none else some (sp_join c x y)
theorem jn_eq {c x y : Int} (hc : 5 ≤ c ∧ c ≤ 12) : ((((c + 15 = 23 ∨ c + 15 = 24) ∧ y = 0) ∨ sp_rkV (c + 15) x y < -1000000000 ∨ 1000000000 < sp_rkV (c + 15) x y) ↔ (1000000000 < sp_join c x y ∨ sp_join c x y < -1000000000)) ∧ (¬ (1000000000 < sp_join c x y ∨ sp_join c x y < -1000000000) → sp_rkV (c + 15) x y = sp_join c x y) := by
  rcases (show c = 5 ∨ c = 6 ∨ c = 7 ∨ c = 8 ∨ c = 9 ∨ c = 10 ∨ c = 11 ∨ c = 12 by omega) with rfl | rfl | rfl | rfl | rfl | rfl | rfl | rfl
  · have e1 : sp_rkV (5 + 15) x y = sp_join 5 x y := by simp [sp_rkV, sp_join]
    rw [e1]
    exact ⟨⟨fun h => by omega, fun h => by omega⟩, fun _ => rfl⟩
  · have e1 : sp_rkV (6 + 15) x y = sp_join 6 x y := by simp [sp_rkV, sp_join]
    rw [e1]
    exact ⟨⟨fun h => by omega, fun h => by omega⟩, fun _ => rfl⟩
  · have e1 : sp_rkV (7 + 15) x y = sp_join 7 x y := by simp [sp_rkV, sp_join]
    rw [e1]
    exact ⟨⟨fun h => by omega, fun h => by omega⟩, fun _ => rfl⟩
  · by_cases hy : y = 0
    · have e2 : sp_join 8 x y = -2000000000 := by simp [sp_join, hy]
      rw [e2]
      exact ⟨⟨fun _ => Or.inr (by omega), fun _ => Or.inl ⟨by omega, hy⟩⟩, fun h => by omega⟩
    · have e1 : sp_rkV (8 + 15) x y = sp_join 8 x y := by simp [sp_rkV, sp_join, hy]
      rw [e1]
      exact ⟨⟨fun h => by omega, fun h => by omega⟩, fun _ => rfl⟩
  · by_cases hy : y = 0
    · have e2 : sp_join 9 x y = -2000000000 := by simp [sp_join, hy]
      rw [e2]
      exact ⟨⟨fun _ => Or.inr (by omega), fun _ => Or.inl ⟨by omega, hy⟩⟩, fun h => by omega⟩
    · have e1 : sp_rkV (9 + 15) x y = sp_join 9 x y := by simp [sp_rkV, sp_join, hy]
      rw [e1]
      exact ⟨⟨fun h => by omega, fun h => by omega⟩, fun _ => rfl⟩
  · have e1 : sp_rkV (10 + 15) x y = sp_join 10 x y := by simp [sp_rkV, sp_join]
    rw [e1]
    exact ⟨⟨fun h => by omega, fun h => by omega⟩, fun _ => rfl⟩
  · have e1 : sp_rkV (11 + 15) x y = sp_join 11 x y := by simp [sp_rkV, sp_join]
    rw [e1]
    exact ⟨⟨fun h => by omega, fun h => by omega⟩, fun _ => rfl⟩
  · have e1 : sp_rkV (12 + 15) x y = sp_join 12 x y := by simp [sp_rkV, sp_join]
    rw [e1]
    exact ⟨⟨fun h => by omega, fun h => by omega⟩, fun _ => rfl⟩
theorem cM_bn {od ab : Int} {o a : Nat → Int} {x y z m1 m2 : Nat} {f g : sp_E → Option Int} {c : Int} (h1 : cM od ab o a x y m1 f) (h2 : cM od ab o a y z m2 g) (hc : 5 ≤ c ∧ c ≤ 12) (ho : o z = c) (hm : 1 ≤ m1) : cM od ab o a x (z + 1) (m1 + m2) (bn c f g) := by
  have hxy := h1.1
  have hyz := h2.1
  refine ⟨by omega, fun o2 a2 e v w stk hb hg hs k => ?_⟩
  have e1 := h1.2 o2 a2 (fun j u1 u2 => e j u1 (by omega)) v w stk hb hg (by omega) ((z - y) + (1 + k))
  rw [show z + 1 - x + k = (y - x) + ((z - y) + (1 + k)) by omega, e1]
  unfold bn
  cases hf : f v with
  | none => rfl
  | some p =>
    have e2 := h2.2 o2 a2 (fun j u1 u2 => e j (by omega) (by omega)) v w (p :: stk) hb hg (by simp only [List.length_cons]; omega) (1 + k)
    show evC o2 a2 w (nvE od) ((z - y) + (1 + k)) y 0 (p :: stk) = _
    rw [e2]
    cases hq : g v with
    | none => rfl
    | some q =>
      show evC o2 a2 w (nvE od) (1 + k) z 0 (q :: p :: stk) = _
      have hoz := (e z (by omega) (by omega)).1.trans ho
      rw [Nat.add_comm 1 k, evC_s, if_neg (by omega), hoz, if_neg (by omega), if_neg (by omega)]
      show (if 1000000000 < sp_join c p q ∨ sp_join c p q < -1000000000 then none else evC o2 a2 w (nvE od) k (z + 1) 0 (sp_join c p q :: stk)) = (match (if 1000000000 < sp_join c p q ∨ sp_join c p q < -1000000000 then none else some (sp_join c p q)) with
        | none => none
        | some t => evC o2 a2 w (nvE od) k (z + 1) 0 (t :: stk))
      by_cases hj : 1000000000 < sp_join c p q ∨ sp_join c p q < -1000000000
      · rw [if_pos hj, if_pos hj]
      · rw [if_neg hj, if_neg hj]
theorem rM_bn {od : Int} {o a : Nat → Int} {x y z : Nat} {f g : sp_E → Option Int} {c : Int} (h1 : rM od o a x y f) (h2 : rM od o a y z g) (hc : 5 ≤ c ∧ c ≤ 12) (ho : o z = c + 15) : rM od o a x (z + 1) (bn c f g) := by
  have hxy := h1.1
  have hyz := h2.1
  refine ⟨by omega, fun o2 a2 e v last stk hb hl => ?_⟩
  have e1 := h1.2 o2 a2 (fun j u1 u2 => e j u1 (by omega)) v last stk hb (by omega)
  have hoz := (e z (by omega) (by omega)).1.trans ho
  unfold bn
  cases hf : f v with
  | none => rw [hf] at e1; exact e1
  | some p =>
    rw [hf] at e1
    have e2 := h2.2 o2 a2 (fun j u1 u2 => e j (by omega) (by omega)) v last (p :: stk) hb (by omega)
    cases hq : g v with
    | none =>
      rw [hq] at e2
      obtain ⟨fu, e3⟩ := e2
      exact e1 fu none e3
    | some q =>
      rw [hq] at e2
      obtain ⟨j1, j2⟩ := jn_eq (c := c) (x := p) (y := q) hc
      show (match (if 1000000000 < sp_join c p q ∨ sp_join c p q < -1000000000 then none else some (sp_join c p q)) with
        | none => ∃ fu, evS o2 a2 (lfE od v) last fu x stk = some none
        | some t => ∀ fu res, evS o2 a2 (lfE od v) last fu (z + 1) (t :: stk) = some res → ∃ fu', evS o2 a2 (lfE od v) last fu' x stk = some res)
      have one : ∀ fu, evS o2 a2 (lfE od v) last (fu + 1) z (q :: p :: stk) = if ((c + 15 = 23 ∨ c + 15 = 24) ∧ q = 0) ∨ sp_rkV (c + 15) p q < -1000000000 ∨ 1000000000 < sp_rkV (c + 15) p q then some none else evS o2 a2 (lfE od v) last fu (z + 1) (sp_rkV (c + 15) p q :: stk) := by
        intro fu
        rw [evS_s, if_neg (by omega), hoz, if_neg (by omega), if_pos (by omega)]
      by_cases hj : 1000000000 < sp_join c p q ∨ sp_join c p q < -1000000000
      · rw [if_pos hj]
        have e3 := one 0
        rw [if_pos (j1.mpr hj)] at e3
        obtain ⟨fu2, e4⟩ := e2 _ _ e3
        exact e1 _ _ e4
      · rw [if_neg hj]
        intro fu res e5
        have e3 := one fu
        rw [if_neg (fun t => hj (j1.mp t)), j2 hj, e5] at e3
        obtain ⟨fu2, e4⟩ := e2 _ _ e3
        exact e1 _ _ e4
theorem fB_bn {od : Int} {f g : sp_E → Option Int} {c : Int} : fB od (bn c f g) := by
  intro v z hb h
  unfold bn at h
  split at h
  · cases h
  · split at h
    · cases h
    · split at h
      · cases h
      · have := Option.some.inj h; omega
theorem fT_bn {od : Int} {f g : sp_E → Option Int} {c : Int} (hc : 10 ≤ c ∧ c ≤ 12) : fT od (bn c f g) := by
  intro v z hb h
  unfold bn at h
  split at h
  · cases h
  · split at h
    · cases h
    · split at h
      · cases h
      · have := Option.some.inj h
        subst this
        unfold sp_join
        rw [if_neg (by omega), if_neg (by omega), if_neg (by omega), if_neg (by omega), if_neg (by omega)]
        split
        · split <;> omega
        · split
          · split <;> omega
          · split <;> omega
/-- turned -/
def nt (f : sp_E → Option Int) : sp_E → Option Int := fun v => match f v with
  | none => none
  | some x => some (1 - x)
theorem cM_nt {od ab : Int} {o a : Nat → Int} {x y m : Nat} {f : sp_E → Option Int} (h1 : cM od ab o a x y m f) (ho : o y = 2) : cM od ab o a x (y + 1) m (nt f) := by
  have hxy := h1.1
  refine ⟨by omega, fun o2 a2 e v w stk hb hg hs k => ?_⟩
  have e1 := h1.2 o2 a2 (fun j u1 u2 => e j u1 (by omega)) v w stk hb hg hs (1 + k)
  rw [show y + 1 - x + k = (y - x) + (1 + k) by omega, e1]
  unfold nt
  cases hf : f v with
  | none => rfl
  | some p =>
    show evC o2 a2 w (nvE od) (1 + k) y 0 (p :: stk) = evC o2 a2 w (nvE od) k (y + 1) 0 ((1 - p) :: stk)
    have hoz := (e y (by omega) (by omega)).1.trans ho
    rw [Nat.add_comm 1 k, evC_s, if_neg (by omega), hoz, if_neg (by omega), if_pos (by omega)]
    dsimp only
    rw [if_pos rfl]
theorem rM_nt {od : Int} {o a : Nat → Int} {x y : Nat} {f : sp_E → Option Int} (h1 : rM od o a x y f) (ho : o y = 28) : rM od o a x (y + 1) (nt f) := by
  have hxy := h1.1
  refine ⟨by omega, fun o2 a2 e v last stk hb hl => ?_⟩
  have e1 := h1.2 o2 a2 (fun j u1 u2 => e j u1 (by omega)) v last stk hb (by omega)
  have hoz := (e y (by omega) (by omega)).1.trans ho
  unfold nt
  cases hf : f v with
  | none => rw [hf] at e1; exact e1
  | some p =>
    rw [hf] at e1
    show ∀ fu res, evS o2 a2 (lfE od v) last fu (y + 1) ((1 - p) :: stk) = some res → ∃ fu', evS o2 a2 (lfE od v) last fu' x stk = some res
    intro fu res e5
    refine e1 (fu + 1) res ?_
    rw [evS_s, if_neg (by omega), hoz, if_neg (by omega), if_neg (by omega)]
    dsimp only
    rw [if_pos rfl]
    exact e5
theorem nt_nt {od : Int} {f : sp_E → Option Int} : nt (nt f) = f := by
  funext v
  unfold nt
  cases f v with
  | none => rfl
  | some x => show some (1 - (1 - x)) = some x; congr 1; omega
theorem fT_nt {od : Int} {f : sp_E → Option Int} (h : fT od f) : fT od (nt f) := by
  intro v z hb e
  unfold nt at e
  split at e
  · cases e
  · rename_i x hx
    have := h v x hb hx
    have := Option.some.inj e
    omega
/-- decided by the first where it is n (0: and, 1: or), else by the second -/
def jn (n : Int) (f g : sp_E → Option Int) : sp_E → Option Int := fun v => match f v with
  | none => none
  | some x => if x = n then some x else g v
theorem cM_jn {od ab : Int} {o a : Nat → Int} {x y z m1 m2 : Nat} {f g : sp_E → Option Int} {n : Int} (h1 : cM od ab o a x y m1 f) (h2 : cM od ab o a (y + 1) z m2 g) (ht : fT od f) (hn : n = 0 ∨ n = 1) (ho : o y = 3 + n) (ha : a y = ((z : Nat) : Int)) (hm : 1 ≤ m1) : cM od ab o a x z (m1 + m2) (jn n f g) := by
  have hxy := h1.1
  have hyz := h2.1
  refine ⟨by omega, fun o2 a2 e v w stk hb hg hs k => ?_⟩
  have e1 := h1.2 o2 a2 (fun j u1 u2 => e j u1 (by omega)) v w stk hb hg (by omega) (1 + (z - (y + 1)) + k)
  rw [show z - x + k = (y - x) + (1 + (z - (y + 1)) + k) by omega, e1]
  unfold jn
  cases hf : f v with
  | none => rfl
  | some p =>
    have hp := ht v p hb hf
    have hoz := (e y (by omega) (by omega)).1.trans ho
    have haz := (e y (by omega) (by omega)).2.trans ha
    show evC o2 a2 w (nvE od) (1 + (z - (y + 1)) + k) y 0 (p :: stk) = (match (if p = n then some p else g v) with
      | none => none
      | some t => evC o2 a2 w (nvE od) k z 0 (t :: stk))
    rw [show 1 + (z - (y + 1)) + k = ((z - (y + 1)) + k) + 1 by omega, evC_s, if_neg (by omega), hoz, if_neg (by omega), if_pos (by omega), haz]
    dsimp only
    rw [if_neg (show ¬ 3 + n = 2 by omega)]
    by_cases hpn : p = n
    · rw [if_pos (show (p = 1 ∧ 3 + n = 4) ∨ (¬ p = 1 ∧ ¬ 3 + n = 4) by omega), if_pos hpn]
      exact evC_skip (z - (y + 1)) (y + 1) k (by omega)
    · rw [if_neg (show ¬ ((p = 1 ∧ 3 + n = 4) ∨ (¬ p = 1 ∧ ¬ 3 + n = 4)) by omega), if_neg hpn]
      exact h2.2 o2 a2 (fun j u1 u2 => e j (by omega) (by omega)) v w stk hb hg (by omega) k
theorem rM_jn {od : Int} {o a : Nat → Int} {x y z : Nat} {f g : sp_E → Option Int} {n : Int} (h1 : rM od o a x y f) (h2 : rM od o a (y + 1) z g) (ht : fT od f) (hn : n = 0 ∨ n = 1) (ho : o y = 29 + n) (ha : a y = ((z : Nat) : Int)) : rM od o a x z (jn n f g) := by
  have hxy := h1.1
  have hyz := h2.1
  refine ⟨by omega, fun o2 a2 e v last stk hb hl => ?_⟩
  have e1 := h1.2 o2 a2 (fun j u1 u2 => e j u1 (by omega)) v last stk hb (by omega)
  have hoz := (e y (by omega) (by omega)).1.trans ho
  have haz := (e y (by omega) (by omega)).2.trans ha
  unfold jn
  cases hf : f v with
  | none => rw [hf] at e1; exact e1
  | some p =>
    rw [hf] at e1
    have hp := ht v p hb hf
    have hif : (if o2 y = 29 then (0 : Int) else 1) = n := by rw [hoz]; split <;> omega
    have one : ∀ fu, evS o2 a2 (lfE od v) last (fu + 1) y (p :: stk) = if p = n then evS o2 a2 (lfE od v) last fu z (p :: stk) else evS o2 a2 (lfE od v) last fu (y + 1) stk := by
      intro fu
      rw [evS_s, if_neg (by omega), if_neg (by omega), if_neg (by omega)]
      show (if o2 y = 28 then _ else if p = (if o2 y = 29 then 0 else 1) then _ else _) = _
      rw [if_neg (by omega), hif]
      by_cases hpn : p = n
      · rw [if_pos hpn, if_pos hpn, if_pos (by omega), haz, Int.toNat_natCast]
      · rw [if_neg hpn, if_neg hpn]
    show (match (if p = n then some p else g v) with
      | none => ∃ fu, evS o2 a2 (lfE od v) last fu x stk = some none
      | some t => ∀ fu res, evS o2 a2 (lfE od v) last fu z (t :: stk) = some res → ∃ fu', evS o2 a2 (lfE od v) last fu' x stk = some res)
    by_cases hpn : p = n
    · rw [if_pos hpn]
      intro fu res e5
      refine e1 (fu + 1) res ?_
      rw [one, if_pos hpn]
      exact e5
    · rw [if_neg hpn]
      have e2 := h2.2 o2 a2 (fun j u1 u2 => e j (by omega) (by omega)) v last stk hb (by omega)
      cases hq : g v with
      | none =>
        rw [hq] at e2
        obtain ⟨fu, e3⟩ := e2
        refine e1 (fu + 1) none ?_
        rw [one, if_neg hpn]
        exact e3
      | some q =>
        rw [hq] at e2
        intro fu res e5
        obtain ⟨fu2, e6⟩ := e2 fu res e5
        refine e1 (fu2 + 1) res ?_
        rw [one, if_neg hpn]
        exact e6
theorem fT_jn {od : Int} {f g : sp_E → Option Int} {n : Int} (h1 : fT od f) (h2 : fT od g) : fT od (jn n f g) := by
  intro v z hb e
  unfold jn at e
  split at e
  · cases e
  · rename_i x hx
    split at e
    · have := Option.some.inj e; rw [← this]; exact h1 v x hb hx
    · exact h2 v z hb e
/-- a leaf -/
theorem cM_lf {od ab : Int} {o a : Nat → Int} {x : Nat} {f : sp_E → Option Int} (h : (o x = 0 ∧ ∀ v, f v = some (a x)) ∨ (o x = 1 ∧ ∃ j : Nat, a x = ((j : Nat) : Int) ∧ j < nvE od ∧ (j = 4 → od = 1 → ab = 1) ∧ ∀ v, f v = some (v j))) : cM od ab o a x (x + 1) 1 f := by
  refine ⟨by omega, fun o2 a2 e v w stk hb hg hs k => ?_⟩
  obtain ⟨eo, ea⟩ := e x (Nat.le_refl _) (by omega)
  rw [show x + 1 - x + k = k + 1 by omega, evC_s, if_neg (by omega)]
  rcases h with ⟨h1, h2⟩ | ⟨h1, j, h2, h3, h4, h5⟩
  · rw [if_pos (Or.inl (eo.trans h1)), if_neg (by rw [eo, h1]; omega), h2 v, if_pos (eo.trans h1), ea]
  · rw [if_pos (Or.inr (eo.trans h1)), if_neg (by rw [eo, h1, ea, h2]; omega), h5 v, if_neg (by rw [eo, h1]; decide), ea, h2, Int.toNat_natCast]
    have hw : w j = v j := by
      rcases hg j h3 with z | z
      · have := h4 z.1 z.2.1; omega
      · exact z
    rw [hw]
theorem rM_lf {od : Int} {o a : Nat → Int} {x : Nat} {f : sp_E → Option Int} (ho : o x < 20) (h : ∀ v, bndE od v → lfE od v (o x) (a x) = f v ∧ f v ≠ none) : rM od o a x (x + 1) f := by
  refine ⟨by omega, fun o2 a2 e v last stk hb hl => ?_⟩
  obtain ⟨eo, ea⟩ := e x (Nat.le_refl _) (by omega)
  obtain ⟨h1, h2⟩ := h v hb
  cases hf : f v with
  | none => exact absurd hf h2
  | some z =>
    show ∀ fu res, evS o2 a2 (lfE od v) last fu (x + 1) (z :: stk) = some res → ∃ fu', evS o2 a2 (lfE od v) last fu' x stk = some res
    intro fu res e5
    refine ⟨fu + 1, ?_⟩
    rw [evS_s, if_neg (by omega), if_pos (by rw [eo]; exact ho), eo, ea, h1, hf]
    exact e5

/-! sermons: the fewest words, by any word and by words from one on -/
section SER
variable {mu hu : Nat → Int} {h : Nat}
theorem lv_0 : ∀ j, lvl mu hu h j 0 = 0 := by
  intro j
  induction j with
  | zero => rfl
  | succ j ih => rw [lvl_s, if_neg (by omega)]; exact ih
theorem lv_m (j x : Nat) : lvl mu hu h (j + 1) x ≤ lvl mu hu h j x := by
  rw [lvl_s]
  split <;> omega
theorem lv_v {j x : Nat} (h1 : 0 < mu (7 - j)) (h2 : hu (7 - j) = ((h : Nat) : Int)) (h3 : (mu (7 - j)).toNat ≤ x) : lvl mu hu h (j + 1) x ≤ lvl mu hu h (j + 1) (x - (mu (7 - j)).toNat) + 1 := by
  rw [lvl_s mu hu h j x, if_pos ⟨⟨h1, h2⟩, h3⟩]
  omega
theorem lvA : ∀ j, j ≤ 8 → ∀ x w, 8 - j ≤ w → w < 8 → 0 < mu w → hu w = ((h : Nat) : Int) → (mu w).toNat ≤ x → lvl mu hu h j x ≤ lvl mu hu h j (x - (mu w).toNat) + 1 := by
  intro j
  induction j with
  | zero => intro _ x w h1 h2; omega
  | succ j ih =>
    intro hj x
    induction x using Nat.strongRecOn with
    | _ x ihx =>
      intro w h1 h2 h3 h4 h5
      by_cases hw : w = 7 - j
      · subst hw; exact lv_v h3 h4 h5
      · have hih := ih (by omega) x w (by omega) h2 h3 h4 h5
        have hm := lv_m (mu := mu) (hu := hu) (h := h) j x
        have e := lvl_s mu hu h j (x - (mu w).toNat)
        by_cases hc : (0 < mu (7 - j) ∧ hu (7 - j) = ((h : Nat) : Int)) ∧ (mu (7 - j)).toNat ≤ x - (mu w).toNat
        · rw [if_pos hc] at e
          have hd := lv_v (j := j) (x := x) hc.1.1 hc.1.2 (by omega)
          have hx := ihx (x - (mu (7 - j)).toNat) (by omega) w h1 h2 h3 h4 (by omega)
          rw [show x - (mu (7 - j)).toNat - (mu w).toNat = x - (mu w).toNat - (mu (7 - j)).toNat by omega] at hx
          omega
        · rw [if_neg hc] at e
          omega
theorem lvB : ∀ j, j ≤ 8 → ∀ x, lvl mu hu h j x = 100000000 ∨ x = 0 ∨ ∃ w, 8 - j ≤ w ∧ w < 8 ∧ 0 < mu w ∧ hu w = ((h : Nat) : Int) ∧ (mu w).toNat ≤ x ∧ lvl mu hu h j x = lvl mu hu h j (x - (mu w).toNat) + 1 := by
  intro j
  induction j with
  | zero =>
    intro _ x
    by_cases hx : x = 0
    · exact Or.inr (Or.inl hx)
    · exact Or.inl (by rw [lvl, if_neg hx])
  | succ j ih =>
    intro hj x
    have e := lvl_s mu hu h j x
    have old : lvl mu hu h (j + 1) x = lvl mu hu h j x → lvl mu hu h (j + 1) x = 100000000 ∨ x = 0 ∨ ∃ w, 8 - (j + 1) ≤ w ∧ w < 8 ∧ 0 < mu w ∧ hu w = ((h : Nat) : Int) ∧ (mu w).toNat ≤ x ∧ lvl mu hu h (j + 1) x = lvl mu hu h (j + 1) (x - (mu w).toNat) + 1 := by
      intro he
      rcases ih (by omega) x with z | z | ⟨w, w1, w2, w3, w4, w5, w6⟩
      · exact Or.inl (he.trans z)
      · exact Or.inr (Or.inl z)
      · refine Or.inr (Or.inr ⟨w, by omega, w2, w3, w4, w5, ?_⟩)
        have a := lvA (mu := mu) (hu := hu) (h := h) (j + 1) hj x w (by omega) w2 w3 w4 w5
        have b := lv_m (mu := mu) (hu := hu) (h := h) j (x - (mu w).toNat)
        omega
    by_cases hc : (0 < mu (7 - j) ∧ hu (7 - j) = ((h : Nat) : Int)) ∧ (mu (7 - j)).toNat ≤ x
    · rw [if_pos hc] at e
      by_cases hl : lvl mu hu h (j + 1) x = lvl mu hu h j x
      · exact old hl
      · have hq : lvl mu hu h (j + 1) x = lvl mu hu h (j + 1) (x - (mu (7 - j)).toNat) + 1 := by clear old; omega
        exact Or.inr (Or.inr ⟨7 - j, by clear old; omega, by clear old; omega, hc.1.1, hc.1.2, hc.2, hq⟩)
    · rw [if_neg hc] at e
      exact old e
theorem lvD {j : Nat} (hj : j ≤ 8) : ∀ x : Nat, lvl mu hu h j x ≤ x ∨ lvl mu hu h j x = 100000000 := by
  intro x
  induction x using Nat.strongRecOn with
  | _ x ih =>
    rcases lvB (mu := mu) (hu := hu) (h := h) j hj x with z | z | ⟨w, w1, w2, w3, w4, w5, w6⟩
    · exact Or.inr z
    · subst z; left; rw [lv_0]; exact Int.le_refl _
    · have b := lvl_b mu hu h j x
      rcases ih (x - (mu w).toNat) (by omega) with y | y <;> omega
theorem lvC {m : Nat} : ∀ x, x ≤ 8 → (∀ y, y < x → ¬ (0 < mu y ∧ hu y = ((h : Nat) : Int) ∧ (mu y).toNat ≤ m ∧ lvl mu hu h 8 (m - (mu y).toNat) = lvl mu hu h 8 m - 1)) → lvl mu hu h (8 - x) m = lvl mu hu h 8 m := by
  intro x
  induction x with
  | zero => intro _ _; rfl
  | succ x ih =>
    intro hx hy
    have h1 := ih (by omega) (fun y z => hy y (by omega))
    have e := lvl_s mu hu h (7 - x) m
    rw [show 7 - (7 - x) = x by omega, show 7 - x + 1 = 8 - x by omega] at e
    rw [show 8 - (x + 1) = 7 - x by omega]
    by_cases hc : (0 < mu x ∧ hu x = ((h : Nat) : Int)) ∧ (mu x).toNat ≤ m
    · rw [if_pos hc] at e
      have a := lvA (mu := mu) (hu := hu) (h := h) 8 (Nat.le_refl _) m x (by omega) (by omega) hc.1.1 hc.1.2 hc.2
      have n := hy x (by omega)
      have mm : ∀ d, d ≤ x → lvl mu hu h 8 (m - (mu x).toNat) ≤ lvl mu hu h (8 - d) (m - (mu x).toNat) := by
        intro d
        induction d with
        | zero => intro _; exact Int.le_refl _
        | succ d ihd =>
          intro hd
          have := lv_m (mu := mu) (hu := hu) (h := h) (8 - (d + 1)) (m - (mu x).toNat)
          rw [show 8 - (d + 1) + 1 = 8 - d by omega] at this
          have := ihd (by omega)
          omega
      have m2 := mm x (Nat.le_refl _)
      have n2 : ¬ lvl mu hu h 8 (m - (mu x).toNat) = lvl mu hu h 8 m - 1 := fun z => n ⟨hc.1.1, hc.1.2, hc.2, z⟩
      omega
    · rw [if_neg hc] at e
      omega
/-- the class's least over words below w -/
def fLs (mu hu : Nat → Int) (h x : Nat) : Nat → Int
  | 0 => 1000000
  | w + 1 => if hu w = ((h : Nat) : Int) ∧ 0 < mu w ∧ mu w ≤ ((x : Nat) : Int) then min (fLs mu hu h x w) (min 1000000 (lvl mu hu h 8 (x - (mu w).toNat)) + 1) else fLs mu hu h x w
theorem fLs_b (x : Nat) : ∀ w, 0 ≤ fLs mu hu h x w ∧ fLs mu hu h x w ≤ 1000000 := by
  intro w
  induction w with
  | zero => simp [fLs]
  | succ w ih => have := lvl_b mu hu h 8 (x - (mu w).toNat); simp only [fLs]; split <;> omega
theorem fLs_le {x : Nat} : ∀ W w, w < W → hu w = ((h : Nat) : Int) → 0 < mu w → mu w ≤ ((x : Nat) : Int) → fLs mu hu h x W ≤ min 1000000 (lvl mu hu h 8 (x - (mu w).toNat)) + 1 := by
  intro W
  induction W with
  | zero => intro w hw; omega
  | succ W ih =>
    intro w hw h1 h2 h3
    simp only [fLs]
    by_cases e : w = W
    · subst e; rw [if_pos ⟨h1, h2, h3⟩]; omega
    · have := ih w (by omega) h1 h2 h3
      split <;> omega
theorem fLs_at {x : Nat} : ∀ W, fLs mu hu h x W = 1000000 ∨ ∃ w, w < W ∧ hu w = ((h : Nat) : Int) ∧ 0 < mu w ∧ mu w ≤ ((x : Nat) : Int) ∧ fLs mu hu h x W = min 1000000 (lvl mu hu h 8 (x - (mu w).toNat)) + 1 := by
  intro W
  induction W with
  | zero => exact Or.inl rfl
  | succ W ih =>
    simp only [fLs]
    by_cases hc : hu W = ((h : Nat) : Int) ∧ 0 < mu W ∧ mu W ≤ ((x : Nat) : Int)
    · rw [if_pos hc]
      by_cases hm : fLs mu hu h x W ≤ min 1000000 (lvl mu hu h 8 (x - (mu W).toNat)) + 1
      · rw [Int.min_eq_left hm]
        rcases ih with z | ⟨w, z1, z2, z3, z4, z5⟩
        · exact Or.inl z
        · exact Or.inr ⟨w, by omega, z2, z3, z4, z5⟩
      · rw [Int.min_eq_right (by omega)]
        exact Or.inr ⟨W, by omega, hc.1, hc.2.1, hc.2.2, rfl⟩
    · rw [if_neg hc]
      rcases ih with z | ⟨w, z1, z2, z3, z4, z5⟩
      · exact Or.inl z
      · exact Or.inr ⟨w, by omega, z2, z3, z4, z5⟩
theorem fLs_eq {x nw : Nat} (hn : nw ≤ 8) (hz : ∀ w, nw ≤ w → mu w = 0) (hx : 0 < x) (h99 : x ≤ 99) : fLs mu hu h x nw = min 1000000 (lvl mu hu h 8 x) := by
  have hb := fLs_b (mu := mu) (hu := hu) (h := h) x nw
  have hd := lvD (mu := mu) (hu := hu) (h := h) (Nat.le_refl 8) x
  have lo : min 1000000 (lvl mu hu h 8 x) ≤ fLs mu hu h x nw := by
    rcases fLs_at (mu := mu) (hu := hu) (h := h) (x := x) nw with z | ⟨w, z1, z2, z3, z4, z5⟩
    · omega
    · have a := lvA (mu := mu) (hu := hu) (h := h) 8 (Nat.le_refl _) x w (by omega) (by omega) z3 z2 (by omega)
      omega
  rcases lvB (mu := mu) (hu := hu) (h := h) 8 (Nat.le_refl _) x with z | z | ⟨w, w1, w2, w3, w4, w5, w6⟩
  · omega
  · omega
  · have hwn : w < nw := by
      rcases (show w < nw ∨ nw ≤ w by omega) with y | y
      · exact y
      · have := hz w y; omega
    have := fLs_le (mu := mu) (hu := hu) (h := h) (x := x) nw w hwn w4 w3 (by omega)
    omega
end SER
/-- does a word help at what is wanted -/
def hlpB (mu hu g : Nat → Int) (y : Nat) : Bool := decide (0 < mu y ∧ mu y ≤ g (hu y).toNat ∧ lvl mu hu (hu y).toNat 8 (g (hu y).toNat - mu y).toNat = lvl mu hu (hu y).toNat 8 (g (hu y).toNat).toNat - 1)
def lowH (mu hu g : Nat → Int) : Nat → Int
  | 0 => -1
  | y + 1 => if lowH mu hu g y = -1 then (if hlpB mu hu g y = true then ((y : Nat) : Int) else -1) else lowH mu hu g y
theorem lowH_f {mu hu g : Nat → Int} {m : Nat} (h : lowH mu hu g m ≠ -1) : ∀ j, lowH mu hu g (m + j) = lowH mu hu g m := by
  intro j
  induction j with
  | zero => rfl
  | succ j ih => rw [← Nat.add_assoc, lowH, ih, if_neg h]
theorem lowH_at {mu hu g : Nat → Int} : ∀ m, (lowH mu hu g m = -1 ∧ ∀ y, y < m → ¬ hlpB mu hu g y = true) ∨ ∃ x : Nat, x < m ∧ lowH mu hu g m = ((x : Nat) : Int) ∧ hlpB mu hu g x = true ∧ ∀ y, y < x → ¬ hlpB mu hu g y = true := by
  intro m
  induction m with
  | zero => exact Or.inl ⟨rfl, fun y hy => by omega⟩
  | succ m ih =>
    simp only [lowH]
    rcases ih with ⟨h1, h2⟩ | ⟨x, h1, h2, h3, h4⟩
    · rw [if_pos h1]
      by_cases hm : hlpB mu hu g m = true
      · rw [if_pos hm]; exact Or.inr ⟨m, by omega, rfl, hm, h2⟩
      · rw [if_neg hm]
        refine Or.inl ⟨rfl, fun y hy => ?_⟩
        rcases (show y < m ∨ y = m by omega) with z | z
        · exact h2 y z
        · rw [z]; exact hm
    · rw [if_neg (by omega)]; exact Or.inr ⟨x, by omega, h2, h3, h4⟩
def seG (mu hu : Nat → Int) (nw : Nat) (g : Nat → Int) : Nat → (Nat → Int) × Int
  | 0 => (g, -1)
  | k + 1 => (fup (seG mu hu nw g k).1 (hu (lowH mu hu (seG mu hu nw g k).1 nw).toNat).toNat ((seG mu hu nw g k).1 (hu (lowH mu hu (seG mu hu nw g k).1 nw).toNat).toNat - mu (lowH mu hu (seG mu hu nw g k).1 nw).toNat), lowH mu hu (seG mu hu nw g k).1 nw)
def gB (g : Nat → Int) : Prop := ∀ j, j < 3 → 0 ≤ g j ∧ g j ≤ 99
/-- sums of three hues, one of them changed -/
theorem alF_up {mu hu g : Nat → Int} {h : Nat} (hh : h < 3) (w : Nat) (x : Int) : alF mu hu w (fup g h x) = alF mu hu w g - lvl mu hu h (8 - w) (g h).toNat + lvl mu hu h (8 - w) x.toNat := by
  unfold alF fup
  rcases (show h = 0 ∨ h = 1 ∨ h = 2 by omega) with rfl | rfl | rfl <;> simp <;> omega
theorem hlp_n {mu hu : Nat → Int} {nw : Nat} (hn8 : nw ≤ 8) (hz : ∀ w, nw ≤ w → mu w = 0) (hm0 : ∀ w, 0 ≤ mu w) (hh3 : ∀ w, w < 8 → 0 ≤ hu w ∧ hu w ≤ 2) {g : Nat → Int} {y : Nat} (h : hlpB mu hu g y = true) : y < nw := by
  have h1 := (of_decide_eq_true h).1
  rcases (show y < nw ∨ nw ≤ y by omega) with z | z
  · exact z
  · have := hz y z; omega
theorem hlp_e {mu hu : Nat → Int} {nw : Nat} (hn8 : nw ≤ 8) (hz : ∀ w, nw ≤ w → mu w = 0) (hm0 : ∀ w, 0 ≤ mu w) (hh3 : ∀ w, w < 8 → 0 ≤ hu w ∧ hu w ≤ 2) {g : Nat → Int} (hg : gB g) (h0 : 0 < alF mu hu 0 g) (h1 : alF mu hu 0 g < 100000000) : ∃ x, x < nw ∧ lowH mu hu g nw = ((x : Nat) : Int) ∧ hlpB mu hu g x = true ∧ ∀ y, y < x → ¬ hlpB mu hu g y = true := by
  rcases lowH_at (mu := mu) (hu := hu) (g := g) nw with ⟨z1, z2⟩ | z
  · exfalso
    have key : ∀ h, h < 3 → lvl mu hu h 8 (g h).toNat = 0 ∨ lvl mu hu h 8 (g h).toNat = 100000000 := by
      intro h hh
      rcases lvB (mu := mu) (hu := hu) (h := h) 8 (Nat.le_refl _) (g h).toNat with y | y | ⟨w, w1, w2, w3, w4, w5, w6⟩
      · exact Or.inr y
      · left; rw [y, lv_0]
      · exfalso
        have e : (hu w).toNat = h := by omega
        have hb := hlpB mu hu g w
        have : hlpB mu hu g w = true := by
          refine decide_eq_true ?_
          have := hg h hh
          rw [e]
          refine ⟨w3, by omega, ?_⟩
          rw [show (g h - mu w).toNat = (g h).toNat - (mu w).toNat by omega]
          omega
        exact z2 w (hlp_n hn8 hz hm0 hh3 this) this
    have b0 := lvl_b mu hu 0 8 (g 0).toNat
    have b1 := lvl_b mu hu 1 8 (g 1).toNat
    have b2 := lvl_b mu hu 2 8 (g 2).toNat
    have k0 := key 0 (by omega)
    have k1 := key 1 (by omega)
    have k2 := key 2 (by omega)
    unfold alF at h0 h1
    simp only [Nat.sub_zero] at h0 h1
    omega
  · exact z
/-- what a word takes away -/
theorem hlp_al {mu hu : Nat → Int} {nw : Nat} (hn8 : nw ≤ 8) (hz : ∀ w, nw ≤ w → mu w = 0) (hm0 : ∀ w, 0 ≤ mu w) (hh3 : ∀ w, w < 8 → 0 ≤ hu w ∧ hu w ≤ 2) {g : Nat → Int} {x : Nat} (h : hlpB mu hu g x = true) : alF mu hu 0 (fup g (hu x).toNat (g (hu x).toNat - mu x)) = alF mu hu 0 g - 1 := by
  have hx := hlp_n hn8 hz hm0 hh3 h
  have hb := hh3 x (by omega)
  have h1 := of_decide_eq_true h
  rw [alF_up (by omega), show 8 - 0 = 8 from rfl, h1.2.2]
  omega
/-- behind the lowest that helps none below it helps -/
theorem hlp_up {mu hu : Nat → Int} {nw : Nat} (hn8 : nw ≤ 8) (hz : ∀ w, nw ≤ w → mu w = 0) (hm0 : ∀ w, 0 ≤ mu w) (hh3 : ∀ w, w < 8 → 0 ≤ hu w ∧ hu w ≤ 2) {g : Nat → Int} {x y : Nat} (hg : gB g) (h : hlpB mu hu g x = true) (hy : hlpB mu hu (fup g (hu x).toNat (g (hu x).toNat - mu x)) y = true) : hlpB mu hu g y = true := by
  have hxn := hlp_n hn8 hz hm0 hh3 h
  have hyn := hlp_n hn8 hz hm0 hh3 hy
  have hbx := hh3 x (by omega)
  have hby := hh3 y (by omega)
  have h1 := of_decide_eq_true h
  have h2 := of_decide_eq_true hy
  have hgx := hg (hu x).toNat (by omega)
  refine decide_eq_true ?_
  by_cases e : (hu y).toNat = (hu x).toNat
  · rw [e, fup_s] at h2
    rw [e]
    have a := lvA (mu := mu) (hu := hu) (h := (hu x).toNat) 8 (Nat.le_refl _) (g (hu x).toNat).toNat y (by omega) (by omega) h2.1 (by omega) (by omega)
    have b := lvA (mu := mu) (hu := hu) (h := (hu x).toNat) 8 (Nat.le_refl _) ((g (hu x).toNat).toNat - (mu y).toNat) x (by omega) (by omega) h1.1 (by omega) (by omega)
    have e1 : (g (hu x).toNat - mu x - mu y).toNat = (g (hu x).toNat).toNat - (mu y).toNat - (mu x).toNat := by omega
    have e2 : (g (hu x).toNat - mu y).toNat = (g (hu x).toNat).toNat - (mu y).toNat := by omega
    rw [e1] at h2
    rw [e2]
    refine ⟨h2.1, by omega, by omega⟩
  · rw [fup_n e] at h2
    exact h2
theorem gB_up {mu hu : Nat → Int} {nw : Nat} (hn8 : nw ≤ 8) (hz : ∀ w, nw ≤ w → mu w = 0) (hm0 : ∀ w, 0 ≤ mu w) (hh3 : ∀ w, w < 8 → 0 ≤ hu w ∧ hu w ≤ 2) {g : Nat → Int} {x : Nat} (hg : gB g) (h : hlpB mu hu g x = true) : gB (fup g (hu x).toNat (g (hu x).toNat - mu x)) := by
  have h1 := of_decide_eq_true h
  intro j hj
  unfold fup
  split
  · rename_i e
    have := hg j hj
    rw [e] at this
    omega
  · exact hg j hj
/-- the reference's word at a state: none below the lowest that helps can come, and it can -/
theorem cc_no {mu hu : Nat → Int} {nw : Nat} (hn8 : nw ≤ 8) (hz : ∀ w, nw ≤ w → mu w = 0) (hm0 : ∀ w, 0 ≤ mu w) (hh3 : ∀ w, w < 8 → 0 ≤ hu w ∧ hu w ≤ 2) {g : Nat → Int} {y : Nat} {left : Int} (hg : gB g) (hy8 : y < 8) (he : left = alF mu hu 0 g - 1) (hf : alF mu hu 0 g < 100000000) (hc : ccB mu hu y g left = true) : hlpB mu hu g y = true := by
  have h1 := of_decide_eq_true hc
  have hb := hh3 y hy8
  have hgy := hg (hu y).toNat (by omega)
  have mono : ∀ (h m d : Nat), lvl mu hu h 8 m ≤ lvl mu hu h (8 - d) m := by
    intro h m d
    induction d with
    | zero => exact Int.le_refl _
    | succ d ihd =>
      rcases (show d < 8 ∨ 8 ≤ d by omega) with z | z
      · have := lv_m (mu := mu) (hu := hu) (h := h) (8 - (d + 1)) m
        rw [show 8 - (d + 1) + 1 = 8 - d by omega] at this
        omega
      · rw [show 8 - (d + 1) = 8 - d by omega]; exact ihd
  refine decide_eq_true ⟨h1.1, h1.2.1, ?_⟩
  have h3 := h1.2.2
  have m2 : alF mu hu 0 (fup g (hu y).toNat (g (hu y).toNat - mu y)) ≤ alF mu hu y (fup g (hu y).toNat (g (hu y).toNat - mu y)) := by
    unfold alF
    have a := mono 0 (fup g (hu y).toNat (g (hu y).toNat - mu y) 0).toNat y
    have b := mono 1 (fup g (hu y).toNat (g (hu y).toNat - mu y) 1).toNat y
    have c := mono 2 (fup g (hu y).toNat (g (hu y).toNat - mu y) 2).toNat y
    simp only [Nat.sub_zero]
    omega
  rw [h3, alF_up (by omega), show 8 - 0 = 8 from rfl] at m2
  have a := lvA (mu := mu) (hu := hu) (h := (hu y).toNat) 8 (Nat.le_refl _) (g (hu y).toNat).toNat y (by omega) (by omega) h1.1 (by omega) (by omega)
  rw [show (g (hu y).toNat).toNat - (mu y).toNat = (g (hu y).toNat - mu y).toNat by omega] at a
  omega
theorem cc_yes {mu hu : Nat → Int} {nw : Nat} (hn8 : nw ≤ 8) (hz : ∀ w, nw ≤ w → mu w = 0) (hm0 : ∀ w, 0 ≤ mu w) (hh3 : ∀ w, w < 8 → 0 ≤ hu w ∧ hu w ≤ 2) {g : Nat → Int} {x : Nat} {left : Int} (hg : gB g) (h : hlpB mu hu g x = true) (hlow : ∀ y, y < x → ¬ hlpB mu hu g y = true) (he : left = alF mu hu 0 g - 1) : ccB mu hu x g left = true := by
  have hxn := hlp_n hn8 hz hm0 hh3 h
  have hbx := hh3 x (by omega)
  have h1 := of_decide_eq_true h
  refine decide_eq_true ⟨h1.1, h1.2.1, ?_⟩
  have hg2 := gB_up hn8 hz hm0 hh3 hg h
  have hal := hlp_al hn8 hz hm0 hh3 h
  have key : ∀ j, j < 3 → lvl mu hu j (8 - x) (fup g (hu x).toNat (g (hu x).toNat - mu x) j).toNat = lvl mu hu j 8 (fup g (hu x).toNat (g (hu x).toNat - mu x) j).toNat := by
    intro j hj
    refine lvC x (by omega) (fun y hy hc => hlow y hy (hlp_up hn8 hz hm0 hh3 hg h ?_))
    have hgj := hg2 j hj
    refine decide_eq_true ?_
    rw [show (hu y).toNat = j by omega]
    refine ⟨hc.1, by omega, ?_⟩
    rw [show (fup g (hu x).toNat (g (hu x).toNat - mu x) j - mu y).toNat = (fup g (hu x).toNat (g (hu x).toNat - mu x) j).toNat - (mu y).toNat by omega]
    exact hc.2.2.2
  rw [he, ← hal]
  unfold alF
  rw [key 0 (by omega), key 1 (by omega), key 2 (by omega)]
theorem srS_to {mu hu : Nat → Int} {nw : Nat} (hn8 : nw ≤ 8) (hz : ∀ w, nw ≤ w → mu w = 0) (hm0 : ∀ w, 0 ≤ mu w) (hh3 : ∀ w, w < 8 → 0 ≤ hu w ∧ hu w ≤ 2) {n i k : Int} {g : Nat → Int} {x r f : Nat} (hk : k ≤ i) (hxn : x < nw) (hno : ∀ y, y < x → ¬ ccB mu hu y g (n - k - 1) = true) (h : srS mu hu nw n i f k x g = some r) : ∀ d w, w + d = x → srS mu hu nw n i (f + d) k w g = some r := by
  intro d
  induction d with
  | zero => intro w hw; rw [show w = x by omega]; exact h
  | succ d ih =>
    intro w hw
    rw [← Nat.add_assoc, srS, if_neg (by omega), if_neg (by omega), if_neg (hno w (by omega))]
    exact ih (w + 1) (by omega)
theorem seG_inv {mu hu : Nat → Int} {nw : Nat} (hn8 : nw ≤ 8) (hz : ∀ w, nw ≤ w → mu w = 0) (hm0 : ∀ w, 0 ≤ mu w) (hh3 : ∀ w, w < 8 → 0 ≤ hu w ∧ hu w ≤ 2) {g0 : Nat → Int} (hg0 : gB g0) (hf : alF mu hu 0 g0 < 100000000) : ∀ k : Nat, (k : Int) ≤ alF mu hu 0 g0 → gB (seG mu hu nw g0 k).1 ∧ alF mu hu 0 (seG mu hu nw g0 k).1 = alF mu hu 0 g0 - k ∧ (0 < k → ∃ x : Nat, x < nw ∧ (seG mu hu nw g0 k).2 = ((x : Nat) : Int) ∧ ∀ y, hlpB mu hu (seG mu hu nw g0 k).1 y = true → x ≤ y) := by
  intro k
  induction k with
  | zero => intro _; exact ⟨hg0, by rw [seG]; simp, fun z => by omega⟩
  | succ k ih =>
    intro hk
    obtain ⟨i1, i2, _⟩ := ih (by omega)
    obtain ⟨x, x1, x2, x3, x4⟩ := hlp_e hn8 hz hm0 hh3 i1 (by omega) (by omega)
    simp only [seG]
    rw [x2, Int.toNat_natCast]
    refine ⟨gB_up hn8 hz hm0 hh3 i1 x3, ?_, fun _ => ⟨x, x1, rfl, fun y hy => ?_⟩⟩
    · rw [hlp_al hn8 hz hm0 hh3 x3]; omega
    · rcases (show x ≤ y ∨ y < x by omega) with z | z
      · exact z
      · exact absurd (hlp_up hn8 hz hm0 hh3 i1 x3 hy) (x4 y z)
theorem srS_seG {mu hu : Nat → Int} {nw : Nat} (hn8 : nw ≤ 8) (hz : ∀ w, nw ≤ w → mu w = 0) (hm0 : ∀ w, 0 ≤ mu w) (hh3 : ∀ w, w < 8 → 0 ≤ hu w ∧ hu w ≤ 2) {g0 : Nat → Int} (hg0 : gB g0) (hf : alF mu hu 0 g0 < 100000000) {i : Nat} (hi : (i : Int) < alF mu hu 0 g0) : ∀ d k, k + d = i + 1 → ∃ f, srS mu hu nw (alF mu hu 0 g0) i f k (seG mu hu nw g0 k).2.toNat (seG mu hu nw g0 k).1 = some (seG mu hu nw g0 (i + 1)).2.toNat := by
  intro d
  induction d with
  | zero => intro k hk; exact ⟨1, by rw [srS, if_pos (by omega), show k = i + 1 by omega]⟩
  | succ d ih =>
    intro k hk
    obtain ⟨f, hfu⟩ := ih (k + 1) (by omega)
    obtain ⟨i1, i2, i3⟩ := seG_inv hn8 hz hm0 hh3 hg0 hf k (by omega)
    obtain ⟨x, x1, x2, x3, x4⟩ := hlp_e hn8 hz hm0 hh3 i1 (by omega) (by omega)
    have hw : (seG mu hu nw g0 k).2.toNat ≤ x := by
      rcases (show k = 0 ∨ 0 < k by omega) with z | z
      · subst z; simp [seG]
      · obtain ⟨y, _, y2, y3⟩ := i3 z
        have := y3 x x3
        rw [y2, Int.toNat_natCast]
        exact this
    refine ⟨f + 1 + (x - (seG mu hu nw g0 k).2.toNat), srS_to hn8 hz hm0 hh3 (by omega) x1 ?_ ?_ _ _ (by omega)⟩
    · exact fun y hy hc => x4 y hy (cc_no hn8 hz hm0 hh3 i1 (by omega) (by omega) (by omega) hc)
    · rw [srS, if_neg (by omega), if_neg (by omega), if_pos (cc_yes hn8 hz hm0 hh3 i1 x3 x4 (by omega))]
      simp only [seG] at hfu
      rw [x2, Int.toNat_natCast] at hfu
      exact hfu


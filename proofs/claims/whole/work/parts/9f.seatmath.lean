/-! seats: the reference's search finds what the class's table tells -/
theorem or_bc : ∀ T, T < 256 → ∀ s, s < 8 → T.testBit s = false → bcF (T ||| 2 ^ s) = bcF T + 1 ∧ T ||| 2 ^ s < 256 ∧ T < T ||| 2 ^ s := by decide +kernel
theorem bc_free : ∀ T, T < 256 → bcF T < 8 → ∃ s, s < 8 ∧ T.testBit s = false := by decide +kernel
def mxS (f : Nat → Int) (T : Nat) : Nat → Int
  | 0 => -1000000
  | s + 1 => if T.testBit s = false then max (mxS f T s) (f s) else mxS f T s
def loS (f : Nat → Int) (T : Nat) (v : Int) : Nat → Int
  | 0 => -1
  | s + 1 => if loS f T v s = -1 then (if T.testBit s = false ∧ f s = v then ((s : Nat) : Int) else -1) else loS f T v s
def bs (D : Nat → Nat → Int) : Nat → Nat → Nat → Int
  | 0, _, _ => 0
  | d + 1, l, T => mxS (fun s => D l s + bs D d (l + 1) (T ||| 2 ^ s)) T 8
theorem mxS_congr {f g : Nat → Int} {T : Nat} : ∀ m, (∀ s, s < m → T.testBit s = false → f s = g s) → mxS f T m = mxS g T m := by
  intro m
  induction m with
  | zero => intro _; rfl
  | succ m ih =>
    intro h
    simp only [mxS]
    rw [ih (fun s hs => h s (by omega))]
    split
    · rename_i hb; rw [h m (by omega) hb]
    · rfl
theorem loS_congr {f g : Nat → Int} {T : Nat} {v : Int} : ∀ m, (∀ s, s < m → T.testBit s = false → f s = g s) → loS f T v m = loS g T v m := by
  intro m
  induction m with
  | zero => intro _; rfl
  | succ m ih =>
    intro h
    simp only [loS]
    rw [ih (fun s hs => h s (by omega))]
    by_cases hb : T.testBit m = false
    · rw [h m (by omega) hb]
    · rw [if_neg (c := T.testBit m = false ∧ f m = v) (fun z => hb z.1), if_neg (c := T.testBit m = false ∧ g m = v) (fun z => hb z.1)]
theorem loS_f {f : Nat → Int} {T : Nat} {v : Int} {m : Nat} (h : loS f T v m ≠ -1) : ∀ j, loS f T v (m + j) = loS f T v m := by
  intro j
  induction j with
  | zero => rfl
  | succ j ih => rw [← Nat.add_assoc, loS, ih, if_neg h]
theorem mxS_b {f : Nat → Int} {T : Nat} {lo hi : Int} (hlo : -1000000 ≤ lo) (hf : ∀ s, s < 8 → T.testBit s = false → lo ≤ f s ∧ f s ≤ hi) (hh : -1000000 ≤ hi) (he : ∃ s, s < 8 ∧ T.testBit s = false) : lo ≤ mxS f T 8 ∧ mxS f T 8 ≤ hi := by
  have key : ∀ m, m ≤ 8 → mxS f T m ≤ hi ∧ ∀ s, s < m → T.testBit s = false → f s ≤ mxS f T m := by
    intro m
    induction m with
    | zero => intro _; exact ⟨hh, fun s hs => by omega⟩
    | succ m ih =>
      intro hm
      obtain ⟨i1, i2⟩ := ih (by omega)
      simp only [mxS]
      split
      · rename_i hb
        have := hf m (by omega) hb
        refine ⟨by omega, fun s hs hbs => ?_⟩
        rcases (show s < m ∨ s = m by omega) with z | z
        · have := i2 s z hbs; omega
        · subst z; omega
      · rename_i hb
        refine ⟨i1, fun s hs hbs => ?_⟩
        rcases (show s < m ∨ s = m by omega) with z | z
        · exact i2 s z hbs
        · subst z; exact absurd hbs hb
  obtain ⟨s, hs, hb⟩ := he
  have h1 := key 8 (Nat.le_refl _)
  have h2 := h1.2 s hs hb
  have h3 := hf s hs hb
  exact ⟨by omega, h1.1⟩
theorem bs_b {D : Nat → Nat → Int} (hD : ∀ l s, -9 ≤ D l s ∧ D l s ≤ 9) : ∀ (d l T : Nat), T < 256 → d + bcF T ≤ 8 → -9 * (d : Int) ≤ bs D d l T ∧ bs D d l T ≤ 9 * (d : Int) := by
  intro d
  induction d with
  | zero => intro l T _ _; simp [bs]
  | succ d ih =>
    intro l T hT hd
    have hfr := bc_free T hT (by omega)
    have h := mxS_b (f := fun s => D l s + bs D d (l + 1) (T ||| 2 ^ s)) (T := T) (lo := -9 * ((d + 1 : Nat) : Int)) (hi := 9 * ((d + 1 : Nat) : Int)) (by omega) (fun s hs hb => by
      obtain ⟨o1, o2, o3⟩ := or_bc T hT s hs hb
      have h1 := ih (l + 1) (T ||| 2 ^ s) o2 (by omega)
      have h2 := hD l s
      show -9 * ((d + 1 : Nat) : Int) ≤ D l s + bs D d (l + 1) (T ||| 2 ^ s) ∧ D l s + bs D d (l + 1) (T ||| 2 ^ s) ≤ 9 * ((d + 1 : Nat) : Int)
      omega) (by omega) hfr
    exact h
/-- the first best, as a fold -/
def agS (f : Nat → Int) (T : Nat) : Nat → Int
  | 0 => -1
  | s + 1 => if T.testBit s = false then (if agS f T s = -1 ∨ f (agS f T s).toNat < f s then ((s : Nat) : Int) else agS f T s) else agS f T s
theorem agS_ok {f : Nat → Int} {T : Nat} (hf : ∀ s, s < 8 → T.testBit s = false → -1000000 ≤ f s) : ∀ m, m ≤ 8 → (agS f T m = -1 ∧ mxS f T m = -1000000 ∧ ∀ s, s < m → ¬ T.testBit s = false) ∨ ∃ a : Nat, a < m ∧ agS f T m = ((a : Nat) : Int) ∧ T.testBit a = false ∧ mxS f T m = f a ∧ (∀ s, s < a → T.testBit s = false → f s < f a) := by
  intro m
  induction m with
  | zero => intro _; exact Or.inl ⟨rfl, rfl, fun s hs => by omega⟩
  | succ m ih =>
    intro hm
    simp only [agS, mxS]
    by_cases hb : T.testBit m = false
    · rw [if_pos hb, if_pos hb]
      have hfm := hf m (by omega) hb
      rcases ih (by omega) with ⟨i1, i2, i3⟩ | ⟨a, a1, a2, a3, a4, a5⟩
      · rw [if_pos (Or.inl i1), i2]
        exact Or.inr ⟨m, by omega, rfl, hb, by omega, fun s hs hbs => absurd hbs (i3 s hs)⟩
      · rw [a2, Int.toNat_natCast]
        by_cases hl : f a < f m
        · rw [if_pos (Or.inr hl), a4]
          refine Or.inr ⟨m, by omega, rfl, hb, by omega, fun s hs hbs => ?_⟩
          have key : f s ≤ f a := by
            rcases (show s < a ∨ s = a ∨ a < s by omega) with z | z | z
            · have := a5 s z hbs; omega
            · rw [z]; omega
            · have mx : ∀ m2, m2 ≤ m → ∀ s2, s2 < m2 → T.testBit s2 = false → f s2 ≤ mxS f T m2 := by
                intro m2
                induction m2 with
                | zero => intro _ s2 h2; omega
                | succ m2 ih2 =>
                  intro hm2 s2 h2 hb2
                  simp only [mxS]
                  rcases (show s2 < m2 ∨ s2 = m2 by omega) with y | y
                  · have := ih2 (by omega) s2 y hb2; split <;> omega
                  · subst y; rw [if_pos hb2]; omega
              have := mx m (Nat.le_refl _) s hs hbs
              omega
          omega
        · rw [if_neg (by omega), a4]
          exact Or.inr ⟨a, by omega, rfl, a3, by omega, a5⟩
    · rw [if_neg hb, if_neg hb]
      rcases ih (by omega) with ⟨i1, i2, i3⟩ | ⟨a, a1, a2, a3, a4, a5⟩
      · refine Or.inl ⟨i1, i2, fun s hs => ?_⟩
        rcases (show s < m ∨ s = m by omega) with z | z
        · exact i3 s z
        · rw [z]; exact hb
      · exact Or.inr ⟨a, by omega, a2, a3, a4, a5⟩
theorem ag_lo {f : Nat → Int} {T : Nat} (hf : ∀ s, s < 8 → T.testBit s = false → -1000000 ≤ f s) (he : ∃ s, s < 8 ∧ T.testBit s = false) : ∃ a : Nat, a < 8 ∧ T.testBit a = false ∧ agS f T 8 = ((a : Nat) : Int) ∧ loS f T (mxS f T 8) 8 = ((a : Nat) : Int) ∧ mxS f T 8 = f a := by
  rcases agS_ok hf 8 (Nat.le_refl _) with ⟨i1, i2, i3⟩ | ⟨a, a1, a2, a3, a4, a5⟩
  · obtain ⟨s, hs, hb⟩ := he
    exact absurd hb (i3 s hs)
  · refine ⟨a, a1, a3, a2, ?_, a4⟩
    rw [a4]
    have lo : ∀ m, m ≤ a → loS f T (f a) m = -1 := by
      intro m
      induction m with
      | zero => intro _; rfl
      | succ m ih =>
        intro hm
        rw [loS, if_pos (ih (by omega)), if_neg]
        intro z
        have := a5 m (by omega) z.1
        omega
    have e1 : loS f T (f a) (a + 1) = ((a : Nat) : Int) := by rw [loS, if_pos (lo a (Nat.le_refl _)), if_pos ⟨a3, rfl⟩]
    have e2 := loS_f (f := f) (T := T) (v := f a) (m := a + 1) (by rw [e1]; omega) (8 - (a + 1))
    rw [show a + 1 + (8 - (a + 1)) = 8 by omega, e1] at e2
    exact e2
def msk (t : Nat → Int) : Nat → Nat
  | 0 => 0
  | l + 1 => msk t l ||| 2 ^ (t l).toNat
theorem msk_congr {t t2 : Nat → Int} : ∀ l, (∀ j, j < l → t j = t2 j) → msk t l = msk t2 l := by
  intro l
  induction l with
  | zero => intro _; rfl
  | succ l ih => intro h; simp only [msk]; rw [ih (fun j hj => h j (by omega)), h l (by omega)]
theorem msk_bit {t : Nat → Int} {s : Nat} : ∀ l, (∀ j, j < l → 0 ≤ t j ∧ t j ≤ 7) → (newB (fup t l ((s : Nat) : Int)) l l = true ↔ (msk t l).testBit s = false) := by
  intro l h
  have key : ∀ m, m ≤ l → (newB (fup t l ((s : Nat) : Int)) l m = true ↔ (msk t m).testBit s = false) := by
    intro m
    induction m with
    | zero => intro _; simp [newB, msk]
    | succ m ih =>
      intro hm
      have hb := h m (by omega)
      simp only [newB, msk, Bool.and_eq_true, Nat.testBit_or, Bool.or_eq_false_iff]
      rw [ih (by omega), fup_s, fup_n (by omega)]
      refine and_congr_right (fun _ => ?_)
      rw [decide_eq_true_eq, Nat.testBit_two_pow]
      rw [decide_eq_false_iff_not]
      omega
  exact key l (Nat.le_refl _)
/-- the search as a fold over seats -/
def exL (g : (Nat → Int) → Int × (Nat → Int) → Int × (Nat → Int)) (l : Nat) (t : Nat → Int) : Nat → Int × (Nat → Int) → Int × (Nat → Int)
  | 0, acc => acc
  | k + 1, acc => exL g l t k (if newB (fup t l ((7 - k : Nat) : Int)) l l = true then g (fup t l ((7 - k : Nat) : Int)) acc else acc)
def exF (D : Nat → Nat → Int) (n : Nat) : Nat → Nat → (Nat → Int) → Int × (Nat → Int) → Int × (Nat → Int)
  | 0, _, t, acc => if acc.1 < sumD D t n then (sumD D t n, cpy t acc.2 n) else acc
  | d + 1, l, t, acc => exL (exF D n d (l + 1)) l t 8 acc
theorem exL_congr {g : (Nat → Int) → Int × (Nat → Int) → Int × (Nat → Int)} {l : Nat} {t t2 : Nat → Int} (h : ∀ j, j < l → t j = t2 j) (hg : ∀ a b acc, (∀ j, j < l + 1 → a j = b j) → g a acc = g b acc) : ∀ k acc, exL g l t k acc = exL g l t2 k acc := by
  intro k
  induction k with
  | zero => intro acc; rfl
  | succ k ih =>
    intro acc
    simp only [exL]
    have e : ∀ x : Int, ∀ j, j < l + 1 → fup t l x j = fup t2 l x j := by
      intro x j hj
      unfold fup
      split
      · rfl
      · exact h j (by omega)
    rw [newB_congr (by rw [fup_s, fup_s]) l (fun j hj => e _ j (by omega)), hg _ _ acc (e _), ih]
theorem exF_congr {D : Nat → Nat → Int} {n : Nat} : ∀ d l t t2 acc, l + d = n → (∀ j, j < l → t j = t2 j) → exF D n d l t acc = exF D n d l t2 acc := by
  intro d
  induction d with
  | zero =>
    intro l t t2 acc hl h
    simp only [exF]
    rw [sumD_congr n (fun j hj => h j (by omega))]
    have : cpy t acc.2 n = cpy t2 acc.2 n := by
      funext j
      unfold cpy
      split
      · exact h j (by omega)
      · rfl
    rw [this]
  | succ d ih =>
    intro l t t2 acc hl h
    simp only [exF]
    exact exL_congr h (fun a b acc2 h2 => ih (l + 1) a b acc2 (by omega) h2) 8 acc
theorem fs_ex {D : Nat → Nat → Int} {n : Nat} (hn : n ≤ 6) : ∀ d l t mo b, l + d = n → (0 < d → t l = -1) → ∃ c t', (∀ j, j < l → t' j = t j) ∧ ∀ f, fsS n D (f + c) ((l : Nat) : Int) t mo b = fsS n D f (((l : Nat) : Int) - 1) t' (exF D n d l t (mo, b)).1 (exF D n d l t (mo, b)).2 := by
  intro d
  induction d with
  | zero =>
    intro l t mo b hl _
    refine ⟨1, fup t l (t l + 1), fun j hj => fup_n (by omega), fun f => ?_⟩
    have hs : sumD D (fup t l (t l + 1)) n = sumD D t n := sumD_congr n (fun j hj => fup_n (by omega))
    have hc : ∀ b2, cpy (fup t l (t l + 1)) b2 n = cpy t b2 n := by
      intro b2
      funext j
      unfold cpy
      split
      · exact fup_n (by omega)
      · rfl
    rw [fsS, if_neg (by omega), if_pos (by omega), Int.toNat_natCast, hs, hc]
    simp only [exF]
    split <;> rfl
  | succ d ih =>
    intro l t mo b hl ht
    have key : ∀ (k : Nat) t mo b, k ≤ 8 → t l = 7 - (k : Int) → ∃ c t', (∀ j, j < l → t' j = t j) ∧ ∀ f, fsS n D (f + c) ((l : Nat) : Int) t mo b = fsS n D f (((l : Nat) : Int) - 1) t' (exL (exF D n d (l + 1)) l t k (mo, b)).1 (exL (exF D n d (l + 1)) l t k (mo, b)).2 := by
      intro k
      induction k with
      | zero =>
        intro t mo b _ hk
        refine ⟨1, fup t l (t l + 1), fun j hj => fup_n (by omega), fun f => ?_⟩
        rw [fsS, if_neg (by omega), if_neg (by omega), Int.toNat_natCast, if_pos (by omega)]
        rfl
      | succ k ihk =>
        intro t mo b hk8 hk
        have ek : t l + 1 = ((7 - k : Nat) : Int) := by omega
        have low : ∀ j, j < l → fup t l ((7 - k : Nat) : Int) j = t j := fun j hj => fup_n (by omega)
        by_cases hnew : newB (fup t l ((7 - k : Nat) : Int)) l l = true
        · obtain ⟨c1, t1, hl1, hf1⟩ := ih (l + 1) (fup (fup t l ((7 - k : Nat) : Int)) (l + 1) (-1)) mo b (by omega) (fun _ => fup_s _ _ _)
          have hexc : exF D n d (l + 1) (fup (fup t l ((7 - k : Nat) : Int)) (l + 1) (-1)) (mo, b) = exF D n d (l + 1) (fup t l ((7 - k : Nat) : Int)) (mo, b) := exF_congr d (l + 1) _ _ _ (by omega) (fun j hj => fup_n (by omega))
          rw [hexc] at hf1
          have ht1 : t1 l = 7 - (k : Int) := by rw [hl1 l (by omega), fup_n (by omega), fup_s]; omega
          obtain ⟨c2, t2, hl2, hf2⟩ := ihk t1 (exF D n d (l + 1) (fup t l ((7 - k : Nat) : Int)) (mo, b)).1 (exF D n d (l + 1) (fup t l ((7 - k : Nat) : Int)) (mo, b)).2 (by omega) ht1
          have hxl : ∀ acc, exL (exF D n d (l + 1)) l t1 k acc = exL (exF D n d (l + 1)) l t k acc := exL_congr (fun j hj => by rw [hl1 j (by omega), fup_n (by omega), fup_n (by omega)]) (fun a b2 acc h2 => exF_congr d (l + 1) a b2 acc (by omega) h2) k
          refine ⟨c2 + c1 + 1, t2, fun j hj => by rw [hl2 j hj, hl1 j (by omega), fup_n (by omega), fup_n (by omega)], fun f => ?_⟩
          rw [← Nat.add_assoc, ← Nat.add_assoc, fsS, if_neg (by omega), if_neg (by omega), Int.toNat_natCast, if_neg (by omega), ek, if_pos hnew]
          rw [show ((l : Nat) : Int) + 1 = ((l + 1 : Nat) : Int) by omega, hf1, show ((l + 1 : Nat) : Int) - 1 = ((l : Nat) : Int) by omega, hf2, hxl]
          simp only [exL]
          rw [if_pos hnew]
        · have ht1 : fup t l ((7 - k : Nat) : Int) l = 7 - (k : Int) := by rw [fup_s]; omega
          obtain ⟨c2, t2, hl2, hf2⟩ := ihk (fup t l ((7 - k : Nat) : Int)) mo b (by omega) ht1
          have hxl : ∀ acc, exL (exF D n d (l + 1)) l (fup t l ((7 - k : Nat) : Int)) k acc = exL (exF D n d (l + 1)) l t k acc := exL_congr low (fun a b2 acc h2 => exF_congr d (l + 1) a b2 acc (by omega) h2) k
          refine ⟨c2 + 1, t2, fun j hj => by rw [hl2 j hj, low j hj], fun f => ?_⟩
          rw [← Nat.add_assoc, fsS, if_neg (by omega), if_neg (by omega), Int.toNat_natCast, if_neg (by omega), ek, if_neg hnew, hf2, hxl]
          simp only [exL]
          rw [if_neg hnew]
    obtain ⟨c, t', h1, h2⟩ := key 8 t mo b (Nat.le_refl _) (by rw [ht (by omega)]; omega)
    exact ⟨c, t', h1, h2⟩
/-- what is put on seats from l on -/
def cmF (D : Nat → Nat → Int) : Nat → Nat → Nat → (Nat → Int) → Nat → Int
  | 0, _, _, t => t
  | d + 1, l, T, t => cmF D d (l + 1) (T ||| 2 ^ (agS (fun s => D l s + bs D d (l + 1) (T ||| 2 ^ s)) T 8).toNat) (fup t l (agS (fun s => D l s + bs D d (l + 1) (T ||| 2 ^ s)) T 8))
theorem cpy_cpy (a b c : Nat → Int) (n : Nat) : cpy a (cpy b c n) n = cpy a c n := by
  funext j
  unfold cpy
  split <;> rfl
theorem ex_best {D : Nat → Nat → Int} (hD : ∀ l s, -9 ≤ D l s ∧ D l s ≤ 9) {n : Nat} (hn : n ≤ 6) : ∀ d l t mo b, l + d = n → (∀ j, j < l → 0 ≤ t j ∧ t j ≤ 7) → bcF (msk t l) = l → msk t l < 256 → exF D n d l t (mo, b) = if mo < sumD D t l + bs D d l (msk t l) then (sumD D t l + bs D d l (msk t l), cpy (cmF D d l (msk t l) t) b n) else (mo, b) := by
  intro d
  induction d with
  | zero =>
    intro l t mo b hl _ _ _
    simp only [exF, bs, cmF, Int.add_zero]
    rw [show l = n by omega]
  | succ d ih =>
    intro l t mo b hl ht hpc hm
    obtain ⟨T, hT⟩ : ∃ T, T = msk t l := ⟨_, rfl⟩
    rw [← hT] at hpc hm
    obtain ⟨F, hF⟩ : ∃ F : Nat → Int, F = fun s => D l s + bs D d (l + 1) (T ||| 2 ^ s) := ⟨_, rfl⟩
    have hFb : ∀ s, s < 8 → T.testBit s = false → -1000000 ≤ F s := by
      intro s hs hb
      obtain ⟨o1, o2, o3⟩ := or_bc T hm s hs hb
      have h1 := bs_b hD d (l + 1) (T ||| 2 ^ s) o2 (by omega)
      have h2 := hD l s
      rw [hF]
      show -1000000 ≤ D l s + bs D d (l + 1) (T ||| 2 ^ s)
      omega
    have one : ∀ s, s < 8 → T.testBit s = false → ∀ mo b, exF D n d (l + 1) (fup t l ((s : Nat) : Int)) (mo, b) = if mo < sumD D t l + F s then (sumD D t l + F s, cpy (cmF D d (l + 1) (T ||| 2 ^ s) (fup t l ((s : Nat) : Int))) b n) else (mo, b) := by
      intro s hs hb mo b
      obtain ⟨o1, o2, o3⟩ := or_bc T hm s hs hb
      have em : msk (fup t l ((s : Nat) : Int)) (l + 1) = T ||| 2 ^ s := by
        rw [msk, fup_s, Int.toNat_natCast, hT, msk_congr l (fun j hj => fup_n (by omega))]
      have es : sumD D (fup t l ((s : Nat) : Int)) (l + 1) = sumD D t l + D l s := by
        rw [sumD, fup_s, Int.toNat_natCast, sumD_congr l (fun j hj => fup_n (by omega))]
      rw [ih (l + 1) (fup t l ((s : Nat) : Int)) mo b (by omega) (fun j hj => by unfold fup; split; omega; exact ht j (by omega)) (by rw [em]; omega) (by rw [em]; exact o2), em, es, hF]
      simp only [Int.add_assoc]
    have fold : ∀ k, k ≤ 8 → ∀ acc, exL (exF D n d (l + 1)) l t k acc = exL (exF D n d (l + 1)) l t k acc := fun _ _ _ => rfl
    -- after the seats below s
    have stp : ∀ m, m ≤ 8 → ∃ acc, exL (exF D n d (l + 1)) l t 8 (mo, b) = exL (exF D n d (l + 1)) l t (8 - m) acc ∧ ((agS F T m = -1 ∧ acc = (mo, b)) ∨ (0 ≤ agS F T m ∧ agS F T m < m ∧ T.testBit (agS F T m).toNat = false ∧ acc = if mo < sumD D t l + F (agS F T m).toNat then (sumD D t l + F (agS F T m).toNat, cpy (cmF D d (l + 1) (T ||| 2 ^ (agS F T m).toNat) (fup t l (agS F T m))) b n) else (mo, b))) := by
      intro m
      induction m with
      | zero => intro _; exact ⟨(mo, b), rfl, Or.inl ⟨rfl, rfl⟩⟩
      | succ m ihm =>
        intro hm8
        obtain ⟨acc, e1, e2⟩ := ihm (by omega)
        have e3 : exL (exF D n d (l + 1)) l t (8 - m) acc = exL (exF D n d (l + 1)) l t (8 - (m + 1)) (if newB (fup t l ((m : Nat) : Int)) l l = true then exF D n d (l + 1) (fup t l ((m : Nat) : Int)) acc else acc) := by
          rw [show 8 - m = (8 - (m + 1)) + 1 by omega, exL, show 7 - (8 - (m + 1)) = m by omega]
        replace e1 := e1.trans e3
        have hbit := msk_bit (t := t) (s := m) l ht
        rw [← hT] at hbit
        by_cases hb : T.testBit m = false
        · rw [if_pos (hbit.mpr hb)] at e1
          refine ⟨_, e1, Or.inr ?_⟩
          have hag : agS F T (m + 1) = (if agS F T m = -1 ∨ F (agS F T m).toNat < F m then ((m : Nat) : Int) else agS F T m) := by rw [agS, if_pos hb]
          rcases e2 with ⟨a1, a2⟩ | ⟨a1, a2, a3, a4⟩
          · have h9 : agS F T (m + 1) = ((m : Nat) : Int) := by rw [hag, if_pos (Or.inl a1)]
            rw [h9, a2, Int.toNat_natCast]
            exact ⟨by omega, by omega, hb, one m (by omega) hb mo b⟩
          · obtain ⟨a, ha⟩ : ∃ a : Nat, agS F T m = ((a : Nat) : Int) := ⟨(agS F T m).toNat, by omega⟩
            rw [ha, Int.toNat_natCast] at a3 a4
            rw [ha, Int.toNat_natCast] at hag
            by_cases hlt : F a < F m
            · have h9 : agS F T (m + 1) = ((m : Nat) : Int) := by rw [hag, if_pos (Or.inr hlt)]
              rw [h9, Int.toNat_natCast]
              refine ⟨by omega, by omega, hb, ?_⟩
              rw [a4]
              by_cases h1 : mo < sumD D t l + F a
              · rw [if_pos h1, one m (by omega) hb, if_pos (by omega), if_pos (by omega), cpy_cpy]
              · rw [if_neg h1, one m (by omega) hb]
            · have h9 : agS F T (m + 1) = ((a : Nat) : Int) := by rw [hag, if_neg (by omega)]
              rw [h9, Int.toNat_natCast]
              refine ⟨by omega, by omega, a3, ?_⟩
              rw [a4]
              by_cases h1 : mo < sumD D t l + F a
              · rw [if_pos h1, one m (by omega) hb, if_neg (by omega)]
              · rw [if_neg h1, one m (by omega) hb, if_neg (by omega)]
        · rw [if_neg (fun z => hb (hbit.mp z))] at e1
          refine ⟨acc, e1, ?_⟩
          have h9 : agS F T (m + 1) = agS F T m := by rw [agS, if_neg hb]
          rw [h9]
          rcases e2 with z | ⟨a1, a2, a3, a4⟩
          · exact Or.inl z
          · exact Or.inr ⟨a1, by omega, a3, a4⟩
    obtain ⟨acc, e1, e2⟩ := stp 8 (Nat.le_refl _)
    obtain ⟨a, a1, a2, a3, a4, a5⟩ := ag_lo hFb (bc_free T hm (by omega))
    simp only [exF]
    rw [e1]
    simp only [Nat.sub_self, exL]
    rcases e2 with ⟨z, _⟩ | ⟨z1, z2, z3, z4⟩
    · omega
    · have eb : bs D (d + 1) l T = mxS F T 8 := by rw [bs, hF]
      have ec : cmF D (d + 1) l T t = cmF D d (l + 1) (T ||| 2 ^ (agS F T 8).toNat) (fup t l (agS F T 8)) := by rw [cmF, hF]
      rw [z4, a3, Int.toNat_natCast, ← hT, eb, ec, a5, a3, Int.toNat_natCast]
/-- the class's seats one after another -/
def stB (D : Nat → Nat → Int) (n l T : Nat) : Nat := (loS (fun s => D l s + bs D (n - l - 1) (l + 1) (T ||| 2 ^ s)) T (bs D (n - l) l T) 8).toNat
def stT (D : Nat → Nat → Int) (n : Nat) : Nat → Nat
  | 0 => 0
  | l + 1 => stT D n l ||| 2 ^ stB D n l (stT D n l)
theorem st_ok {D : Nat → Nat → Int} (hD : ∀ l s, -9 ≤ D l s ∧ D l s ≤ 9) {n : Nat} (hn : n ≤ 6) {l T : Nat} (hl : l < n) (hT : T < 256) (hpc : bcF T = l) : ∃ a : Nat, a < 8 ∧ T.testBit a = false ∧ agS (fun s => D l s + bs D (n - l - 1) (l + 1) (T ||| 2 ^ s)) T 8 = ((a : Nat) : Int) ∧ loS (fun s => D l s + bs D (n - l - 1) (l + 1) (T ||| 2 ^ s)) T (bs D (n - l) l T) 8 = ((a : Nat) : Int) ∧ stB D n l T = a := by
  have hFb : ∀ s, s < 8 → T.testBit s = false → -1000000 ≤ (fun s => D l s + bs D (n - l - 1) (l + 1) (T ||| 2 ^ s)) s := by
    intro s hs hb
    obtain ⟨o1, o2, o3⟩ := or_bc T hT s hs hb
    have h1 := bs_b hD (n - l - 1) (l + 1) (T ||| 2 ^ s) o2 (by omega)
    have h2 := hD l s
    show -1000000 ≤ D l s + bs D (n - l - 1) (l + 1) (T ||| 2 ^ s)
    omega
  obtain ⟨a, a1, a2, a3, a4, a5⟩ := ag_lo hFb (bc_free T hT (by omega))
  have e : bs D (n - l) l T = mxS (fun s => D l s + bs D (n - l - 1) (l + 1) (T ||| 2 ^ s)) T 8 := by
    rw [show n - l = (n - l - 1) + 1 by omega, bs]
    rfl
  rw [← e] at a4
  exact ⟨a, a1, a2, a3, a4, by unfold stB; rw [a4, Int.toNat_natCast]⟩
theorem stT_ok {D : Nat → Nat → Int} (hD : ∀ l s, -9 ≤ D l s ∧ D l s ≤ 9) {n : Nat} (hn : n ≤ 6) : ∀ l, l ≤ n → stT D n l < 256 ∧ bcF (stT D n l) = l := by
  intro l
  induction l with
  | zero => intro _; exact ⟨by simp [stT], by rw [stT]; decide⟩
  | succ l ih =>
    intro hl
    obtain ⟨h1, h2⟩ := ih (by omega)
    obtain ⟨a, a1, a2, a3, a4, a5⟩ := st_ok hD hn (l := l) (T := stT D n l) (by omega) h1 h2
    obtain ⟨o1, o2, o3⟩ := or_bc (stT D n l) h1 a a1 a2
    rw [stT, a5]
    exact ⟨o2, by omega⟩
theorem cm_low {D : Nat → Nat → Int} : ∀ d l T t j, j < l → cmF D d l T t j = t j := by
  intro d
  induction d with
  | zero => intro l T t j _; rfl
  | succ d ih => intro l T t j hj; rw [cmF, ih (l + 1) _ _ j (by omega), fup_n (by omega)]
theorem cm_st {D : Nat → Nat → Int} (hD : ∀ l s, -9 ≤ D l s ∧ D l s ≤ 9) {n : Nat} (hn : n ≤ 6) : ∀ d l t j, l + d = n → l ≤ j → j < n → cmF D d l (stT D n l) t j = ((stB D n j (stT D n j) : Nat) : Int) := by
  intro d
  induction d with
  | zero => intro l t j hl h1 h2; omega
  | succ d ih =>
    intro l t j hl h1 h2
    obtain ⟨h3, h4⟩ := stT_ok hD hn l (by omega)
    obtain ⟨a, a1, a2, a3, a4, a5⟩ := st_ok hD hn (l := l) (T := stT D n l) (by omega) h3 h4
    rw [show n - l - 1 = d by omega] at a3
    rw [cmF, a3, Int.toNat_natCast]
    have e : stT D n l ||| 2 ^ a = stT D n (l + 1) := by rw [stT, a5]
    rw [e]
    rcases (show j = l ∨ l + 1 ≤ j by omega) with z | z
    · rw [z, cm_low d (l + 1) _ _ l (by omega), fup_s, a5]
    · exact ih (l + 1) _ j (by omega) z h2
theorem fs_all {D : Nat → Nat → Int} (hD : ∀ l s, -9 ≤ D l s ∧ D l s ≤ 9) {n : Nat} (hn : n ≤ 6) (t b : Nat → Int) : ∃ f res, fsS n D f 0 (fup t 0 (-1)) (-100000000) b = some res ∧ res.1 = bs D n 0 0 ∧ ∀ j, j < n → res.2 j = ((stB D n j (stT D n j) : Nat) : Int) := by
  obtain ⟨c, t', h1, h2⟩ := fs_ex (D := D) hn n 0 (fup t 0 (-1)) (-100000000) b (by omega) (fun _ => fup_s _ _ _)
  have h3 := h2 1
  have he := ex_best hD hn n 0 (fup t 0 (-1)) (-100000000) b (by omega) (fun j hj => by omega) (by rw [msk]; decide) (by simp [msk])
  have hb := bs_b hD n 0 0 (by decide) (by rw [show bcF 0 = 0 by decide]; omega)
  rw [show msk (fup t 0 (-1)) 0 = 0 from rfl, show sumD D (fup t 0 (-1)) 0 = 0 from rfl, if_pos (by omega)] at he
  rw [he, fsS, if_pos (by omega)] at h3
  refine ⟨1 + c, _, h3, by show 0 + bs D n 0 0 = _; omega, fun j hj => ?_⟩
  show cpy (cmF D n 0 0 (fup t 0 (-1))) b n j = _
  unfold cpy
  rw [if_pos hj]
  exact cm_st hD hn n 0 (fup t 0 (-1)) j (by omega) (by omega) hj

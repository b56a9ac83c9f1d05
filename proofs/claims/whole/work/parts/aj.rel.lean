/-! what the class and the reference hold in common -/
abbrev sp_I : Type := (Nat → Int) × List (List sp_C)
/-- the laws of the church at cb, each a text of its own -/
def LC (sh : List (Nat × Nat)) (M : Nat → Nat → Int) (cb : Nat) (ls : List (List sp_C)) : Prop := px_lOK sh M cb ∧ ∀ (n : Nat) (l : List sp_C), ls[n]? = some l → ∃ t N C : Nat, M (cb + 8) n = ((t : Nat) : Int) ∧ 264 ≤ t ∧ px_den sh M t N C l
def LR (g : Nat → Int) (ls : List (List sp_C)) : Prop := ∀ (n : Nat) (l : List sp_C), ls[n]? = some l → rl_den g (110 + 900 * n) l
def IOK (x : sp_I) : Prop := sp_ok x.1 ∧ x.1 5 ≤ 999 ∧ x.1 3 = ((x.2.length : Nat) : Int) ∧ ∀ l ∈ x.2, sp_rs l
def trlOK (ρ : Nat → Int) (tl : sp_T) : Prop := ∀ e ∈ tl, (0 ≤ e.1 ∧ e.1 ≤ 4) ∧ sp_ok e.2 ∧ e.2 5 ≤ 999 ∧ e.2 6 = ρ 6 ∧ e.2 7 = ρ 7
def cj (j : Nat) : Nat := if j < 3 then j + 1 else j + 2
def CC (f rf : Nat → Int) : Prop := ∀ j, j < 5 → f j = rf (cj j)
def YC (M : Nat → Nat → Int) (dl : Int) (yf : Nat → Int) : Prop := ((M 0 14 = 0 ∧ dl = -1) ∨ (M 0 14 = 1 ∧ dl = rc M 14 1 ∧ 0 ≤ dl ∧ dl ≤ 6)) ∧ (dl ≠ -1 → ∀ j, j < 64 → rc M 14 (5 + j) = yf j)
def IC (sh : List (Nat × Nat)) (M : Nat → Nat → Int) (im : Nat → Option sp_I) : Prop := ∀ k, k < 2 → (M 26 k = 0 ∧ im k = none) ∨ (M 26 k = 1 ∧ ∃ y, im k = some y ∧ rc M (206 + 11 * k) = y.1 ∧ LC sh M (206 + 11 * k) y.2)
def rw9 (g : Nat → Int) : Nat → Int := fun j => if j < 109 then g j else 0
def IR (M : Nat → Nat → Int) (im : Nat → Option sp_I) : Prop := ∀ k, k < 2 → (M 232 k = 0 ∧ im k = none) ∨ (M 232 k = 1 ∧ ∃ y, im k = some y ∧ rw9 (fun j => M 231 (j + 5510 * k)) = y.1 ∧ LR (fun j => M 231 (j + 5510 * k)) y.2)
/-- the reference's words, as numbers -/
def TB (M : Nat → Nat → Int) : Prop := (∀ k, k < 12 → M 243 k = hw 3 k ∧ 0 ≤ hw 3 k ∧ hw 3 k ≤ 1125899906842624) ∧ (∀ k, k < 9 → M 244 k = hw 2 k ∧ 0 ≤ hw 2 k ∧ hw 2 k ≤ 1125899906842624) ∧ (∀ k, k < 4 → M 245 k = hw 1 k ∧ 0 ≤ hw 1 k ∧ hw 1 k ≤ 1125899906842624) ∧ (∀ k, k < 5 → M 261 k = hw 0 (lof k) ∧ 0 ≤ hw 0 (lof k) ∧ hw 0 (lof k) ≤ 1125899906842624)
/-- the class's side: row and laws x, trail tl, leads, status, fault, stopped, tape, counters, years, images -/
def CR (sh : List (Nat × Nat)) (M : Nat → Nat → Int) (x : sp_I) (tl : sp_T) (ld st ft sp : Int) (tn : Nat) (tb rf : Nat → Int) (dl : Int) (yf : Nat → Int) (im : Nat → Option sp_I) : Prop :=
  rc M 3 = x.1 ∧ LC sh M 3 x.2 ∧ ctlR M 27 tl ∧ M 0 11 = ((tn : Nat) : Int) ∧ (M 0 12 = ld ∧ M 0 13 = st) ∧ M 200 1 = ft ∧ M 98 0 = sp ∧ M 199 = tb ∧ CC (M 205) rf ∧ coA (M 202) (M 203) ∧ YC M dl yf ∧ IC sh M im
def RR (M : Nat → Nat → Int) (x : sp_I) (tl : sp_T) (ld st ft sp : Int) (tn : Nat) (tb rf : Nat → Int) (dl : Int) (yf : Nat → Int) (im : Nat → Option sp_I) : Prop :=
  rr_ M = x.1 ∧ LR (M 230) x.2 ∧ tlR M tl ∧ M 228 13 = ((tn : Nat) : Int) ∧ (M 228 11 = ld ∧ M 228 1 = st) ∧ M 228 18 = ft ∧ M 228 57 = sp ∧ M 237 = tb ∧ M 229 = rf ∧ M 228 20 = 0 ∧ (M 228 61 = dl ∧ M 263 = yf) ∧ IR M im ∧ TB M
def PO (n : Nat) (x : sp_I) (tl : sp_T) (tn : Nat) (tb rf : Nat → Int) (dl : Int) (im : Nat → Option sp_I) : Prop :=
  IOK x ∧ trlOK x.1 tl ∧ tn ≤ 400 ∧ (∀ j, 0 ≤ tb j ∧ tb j ≤ 255) ∧ (∀ j, j < 7 → 0 ≤ rf j ∧ rf j ≤ ((n : Nat) : Int)) ∧ (-1 ≤ dl ∧ dl ≤ 6) ∧ ∀ k, k < 2 → ∀ y, im k = some y → IOK y
def sSl (sh : List (Nat × Nat)) : Nat := (sh.map (fun q => q.2)).sum
def JW (sh : List (Nat × Nat)) (M : Nat → Nat → Int) (n : Nat) : Prop := px_W0 <+: sh ∧ px_Fx M ∧ px_RG sh M ∧ sh.length ≤ 264 + 4 * n ∧ sSl sh ≤ 31000 + 910 * n
def JJ (sh : List (Nat × Nat)) (M : Nat → Nat → Int) (n : Nat) : Prop := n ≤ 600 ∧ JW sh M n ∧ ∃ x tl ld st ft sp tn tb rf dl yf im, CR sh M x tl ld st ft sp tn tb rf dl yf im ∧ RR M x tl ld st ft sp tn tb rf dl yf im ∧ PO n x tl tn tb rf dl im
section REL
variable {sh sh2 : List (Nat × Nat)} {M M2 : Nat → Nat → Int} {x x2 : sp_I} {tl tl2 : sp_T} {ld st ft sp st2 : Int} {tn : Nat} {tb rf rf2 : Nat → Int} {dl : Int} {yf : Nat → Int} {im : Nat → Option sp_I}
theorem den_sh {t N C : Nat} {l : List sp_C} (h : px_den sh M t N C l) (e : ∀ a, 264 ≤ a → a < sh.length → M2 a = M a) (ht : 264 ≤ t) (es : ∀ (a : Nat) (y : Nat × Nat), sh[a]? = some y → sh2[a]? = some y) : px_den sh2 M2 t N C l := by
  have hT := h.1
  have l3 : t + 3 < sh.length := (List.getElem?_eq_some_iff.mp hT.2.2.2.1).1
  have h2 := den_eq (M2 := M2) h (fun i hi => e _ (by omega) (by omega))
  obtain ⟨⟨a1, a2, a3, a4, a5⟩, h3⟩ := h2
  exact ⟨⟨es _ _ a1, es _ _ a2, es _ _ a3, es _ _ a4, a5⟩, h3⟩
theorem eok_sh {t : Nat} (h : px_eok 13 (.ref t) sh = true) (es : ∀ (a : Nat) (y : Nat × Nat), sh[a]? = some y → sh2[a]? = some y) : px_eok 13 (.ref t) sh2 = true := by
  unfold px_eok at h ⊢
  dsimp only at h ⊢
  cases hs : sh[t]? with
  | none => rw [hs] at h; cases h
  | some y => rw [hs] at h; rw [es _ _ hs]; exact h
theorem LC_fr {cb : Nat} {ls : List (List sp_C)} (h : LC sh M cb ls) (e8 : M2 (cb + 8) = M (cb + 8)) (e : ∀ a, 264 ≤ a → a < sh.length → M2 a = M a) (es : ∀ (a : Nat) (y : Nat × Nat), sh[a]? = some y → sh2[a]? = some y) : LC sh2 M2 cb ls := by
  refine ⟨fun n hn => ?_, fun n l hl => ?_⟩
  · rw [e8]
    rcases h.1 n hn with z | ⟨t, z1, z2, z3⟩
    · exact Or.inl z
    · exact Or.inr ⟨t, z1, z2, eok_sh z3 es⟩
  · obtain ⟨t, N, C, h1, h2, h3⟩ := h.2 n l hl
    exact ⟨t, N, C, by rw [e8]; exact h1, h2, den_sh h3 e h2 es⟩
theorem YC_fr (h : YC M dl yf) (e0 : M2 0 14 = M 0 14) (e : ∀ a, 14 ≤ a → a ≤ 24 → M2 a = M a) : YC M2 dl yf := by
  have : rc M2 14 = rc M 14 := rc_eq (fun i hi => e _ (by omega) (by omega))
  unfold YC
  rw [this, e0]
  exact h
theorem IC_fr (h : IC sh M im) (e6 : M2 26 = M 26) (e : ∀ a, 206 ≤ a → a < 228 → M2 a = M a) (eh : ∀ a, 264 ≤ a → a < sh.length → M2 a = M a) (es : ∀ (a : Nat) (y : Nat × Nat), sh[a]? = some y → sh2[a]? = some y) : IC sh2 M2 im := by
  intro k hk
  rw [e6]
  rcases h k hk with z | ⟨z1, y, z2, z3, z4⟩
  · exact Or.inl z
  · refine Or.inr ⟨z1, y, z2, ?_, LC_fr z4 (e _ (by omega) (by omega)) eh es⟩
    rw [rc_eq (M := M) (fun i hi => e _ (by omega) (by omega))]
    exact z3
/-- the class's side, but for row, trail, status, counters -/
theorem CR_up (h : CR sh M x tl ld st ft sp tn tb rf dl yf im) (e : ∀ a, a = 11 ∨ (14 ≤ a ∧ a ≤ 26) ∨ a = 98 ∨ a = 199 ∨ a = 200 ∨ a = 202 ∨ a = 203 ∨ (206 ≤ a ∧ a < 228) ∨ 264 ≤ a → M2 a = M a) (f0 : fk 0 [13] M M2) (h13 : M2 0 13 = st2) {ρ2 : Nat → Int} (hr : rc M2 3 = ρ2) (ht : ctlR M2 27 tl2) (hc : CC (M2 205) rf2) : CR sh M2 (ρ2, x.2) tl2 ld st2 ft sp tn tb rf2 dl yf im := by
  obtain ⟨h1, h2, h3, h4, ⟨h5, h6⟩, h7, h8, h9, h10, h11, h12, h13'⟩ := h
  exact ⟨hr, LC_fr h2 (e _ (by omega)) (fun a h _ => e a (by omega)) (fun _ _ z => z), ht, by rw [f0 11 (by decide)]; exact h4, ⟨by rw [f0 12 (by decide)]; exact h5, h13⟩, by rw [e 200 (by omega)]; exact h7, by rw [e 98 (by omega)]; exact h8, by rw [e 199 (by omega)]; exact h9, hc, by rw [e 202 (by omega), e 203 (by omega)]; exact h11, YC_fr h12 (f0 14 (by decide)) (fun a h1 h2 => e a (by omega)), IC_fr h13' (e 26 (by omega)) (fun a h1 h2 => e a (by omega)) (fun a h _ => e a (by omega)) (fun _ _ z => z)⟩
/-- nothing of the class's side changed -/
theorem CR_q (h : CR sh M x tl ld st ft sp tn tb rf dl yf im) (e : ∀ a, a = 0 ∨ (3 ≤ a ∧ a ≤ 11) ∨ (14 ≤ a ∧ a ≤ 98) ∨ a = 199 ∨ a = 200 ∨ a = 202 ∨ a = 203 ∨ (205 ≤ a ∧ a < 228) ∨ 264 ≤ a → M2 a = M a) : CR sh M2 x tl ld st ft sp tn tb rf dl yf im := by
  have := CR_up (M2 := M2) (st2 := st) (ρ2 := x.1) (tl2 := tl) (rf2 := rf) h (fun a ha => e a (by omega)) (fun j _ => by rw [e 0 (by omega)]) (by rw [e 0 (by omega)]; exact h.2.2.2.2.1.2) (by rw [rc_eq (M := M) (fun i hi => e _ (by omega))]; exact h.1) (ctl_eq h.2.2.1 (fun a h1 h2 => e a (by omega))) (by rw [e 205 (by omega)]; exact h.2.2.2.2.2.2.2.2.1)
  exact this
theorem RR_fr (h : RR M x tl ld st ft sp tn tb rf dl yf im) (e : ∀ a, 228 ≤ a → a < 264 → M2 a = M a) : RR M2 x tl ld st ft sp tn tb rf dl yf im := by
  have hr : rr_ M2 = rr_ M := by funext j; unfold rr_; rw [e 230 (by omega) (by omega)]
  unfold RR IR TB tlR
  rw [hr, e 228 (by omega) (by omega), e 229 (by omega) (by omega), e 230 (by omega) (by omega), e 231 (by omega) (by omega), e 232 (by omega) (by omega), e 233 (by omega) (by omega), e 234 (by omega) (by omega), e 237 (by omega) (by omega), e 243 (by omega) (by omega), e 244 (by omega) (by omega), e 245 (by omega) (by omega), e 261 (by omega) (by omega), e 263 (by omega) (by omega)]
  exact h
theorem evS_cg {o a o2 a2 : Nat → Int} {lf : Int → Int → Option Int} {last : Nat} (e : ∀ k, k < last → o2 k = o k ∧ a2 k = a k) : ∀ (f k : Nat) (stk : List Int), evS o2 a2 lf last f k stk = evS o a lf last f k stk := by
  intro f
  induction f with
  | zero => intro k stk; rfl
  | succ f ih =>
    intro k stk
    rw [evS_s, evS_s]
    by_cases h : last ≤ k
    · rw [if_pos h, if_pos h]
    · obtain ⟨e1, e2⟩ := e k (by omega)
      rw [if_neg h, if_neg h, e1, e2]
      simp only [ih]
theorem rlM_cg {o a o2 a2 : Nat → Int} {lf : Int → Int → Option Int} {p q : Nat} {y : Option Int} (h : rlM o a lf p q y) (e : ∀ k, k < q → o2 k = o k ∧ a2 k = a k) : rlM o2 a2 lf p q y := by
  obtain ⟨f, res, h1, h2⟩ := h
  exact ⟨f, res, by rw [evS_cg e]; exact h1, h2⟩
theorem rlden_eq {g g2 : Nat → Int} {lb : Nat} {l : List sp_C} (h : rl_den g lb l) (e : ∀ j, lb < j → j < lb + 900 → g2 j = g j) : rl_den g2 lb l := by
  obtain ⟨h1, h2, h3⟩ := h
  refine ⟨by rw [e _ (by omega) (by omega)]; exact h1, h2, fun c hc => ?_⟩
  obtain ⟨y, hy, k1, k2, ⟨a, b, k3, k4, k5, k6, k7⟩, ⟨a', b', k8, k9, l1, l2, l3⟩⟩ := h3 c hc
  refine ⟨y, hy, by rw [e _ (by omega) (by omega)]; exact k1, k2, ⟨a, b, by rw [e _ (by omega) (by omega)]; exact k3, by rw [e _ (by omega) (by omega)]; exact k4, k5, k6, fun v hv => ?_⟩, ⟨a', b', by rw [e _ (by omega) (by omega)]; exact k8, by rw [e _ (by omega) (by omega)]; exact k9, l1, l2, fun v hv => ?_⟩⟩
  · obtain ⟨m1, m2, m3⟩ := k7 v hv
    exact ⟨m1, m2, fun z => rlM_cg (m3 z) (fun k hk => ⟨e _ (by omega) (by omega), e _ (by omega) (by omega)⟩)⟩
  · obtain ⟨m1, m2⟩ := l3 v hv
    exact ⟨m1, fun z => rlM_cg (m2 z) (fun k hk => ⟨e _ (by omega) (by omega), e _ (by omega) (by omega)⟩)⟩
theorem LR_eq {g g2 : Nat → Int} {ls : List (List sp_C)} (h : LR g ls) (e : ∀ j, 109 ≤ j → g2 j = g j) : LR g2 ls := fun n l hl => rlden_eq (h n l hl) (fun j h1 _ => e j (by omega))
theorem LR_eq2 {g g2 : Nat → Int} {ls : List (List sp_C)} (hl6 : ls.length ≤ 6) (h : LR g ls) (e : ∀ j, 109 ≤ j → j < 5510 → g2 j = g j) : LR g2 ls := fun n l hl => by
  have := (List.getElem?_eq_some_iff.mp hl).1
  exact rlden_eq (h n l hl) (fun j h1 h2 => e j (by omega) (by omega))
theorem RR_up (h : RR M x tl ld st ft sp tn tb rf dl yf im) (e : ∀ a, a = 231 ∨ a = 232 ∨ a = 237 ∨ a = 243 ∨ a = 244 ∨ a = 245 ∨ a = 261 ∨ a = 263 → M2 a = M a) (f0 : rz [1, 8] M M2) (h1 : M2 228 1 = st2) {ρ2 : Nat → Int} (hr : rr_ M2 = ρ2) (h9 : r9 M M2) (ht : tlR M2 tl2) (hc : M2 229 = rf2) : RR M2 (ρ2, x.2) tl2 ld st2 ft sp tn tb rf2 dl yf im := by
  obtain ⟨-, g2, -, g4, ⟨g5, -⟩, g7, g8, g9, -, g11, ⟨g12, g13⟩, g14, g15⟩ := h
  have z : ∀ j, j ∈ obs → j ∉ [1, 8] → M2 228 j = M 228 j := f0
  refine ⟨hr, LR_eq g2 h9, ht, by rw [z 13 (by decide) (by decide)]; exact g4, ⟨by rw [z 11 (by decide) (by decide)]; exact g5, h1⟩, by rw [z 18 (by decide) (by decide)]; exact g7, by rw [z 57 (by decide) (by decide)]; exact g8, by rw [e 237 (by omega)]; exact g9, hc, by rw [z 20 (by decide) (by decide)]; exact g11, ⟨by rw [z 61 (by decide) (by decide)]; exact g12, by rw [e 263 (by omega)]; exact g13⟩, ?_, ?_⟩
  · unfold IR; rw [e 231 (by omega), e 232 (by omega)]; exact g14
  · unfold TB; rw [e 243 (by omega), e 244 (by omega), e 245 (by omega), e 261 (by omega)]; exact g15
theorem tlR_8 (h : tlR M tl) (h8 : M2 228 8 = M 228 8) (h3 : ∀ j, j < 1024 → M2 233 j = M 233 j) (h4 : M2 234 = M 234) : tlR M2 tl := by
  refine ⟨h8.trans h.1, h.2.1, fun k hk => ?_⟩
  obtain ⟨y, a1, a2, a3⟩ := h.2.2 k hk
  have := h.2.1
  exact ⟨y, a1, by rw [h4]; exact a2, fun i hi => by rw [h3 _ (by omega)]; exact a3 i hi⟩
/-- nothing of the reference's side changed -/
theorem RR_q (h : RR M x tl ld st ft sp tn tb rf dl yf im) (e : ∀ a, a = 229 ∨ a = 231 ∨ a = 232 ∨ a = 234 ∨ a = 237 ∨ a = 243 ∨ a = 244 ∨ a = 245 ∨ a = 261 ∨ a = 263 → M2 a = M a) (f0 : rz [] M M2) (e0 : M2 230 = M 230) (e3 : ∀ j, j < 1024 → M2 233 j = M 233 j) : RR M2 x tl ld st ft sp tn tb rf dl yf im := by
  have hr : rr_ M2 = rr_ M := by funext j; unfold rr_; rw [e0]
  exact RR_up (x := x) h (fun a ha => e a (by omega)) (fun j h1 h2 => f0 j h1 (by simp)) (by rw [f0 1 (by decide) (by simp)]; exact h.2.2.2.2.1.2) (hr.trans h.1) (fun j _ => by rw [e0]) (tlR_8 h.2.2.1 (f0 8 (by decide) (by simp)) e3 (e 234 (by omega))) (by rw [e 229 (by omega)]; exact h.2.2.2.2.2.2.2.2.1)
theorem CR_all {ld2 ft2 sp2 : Int} {tn2 : Nat} {tb2 : Nat → Int} (h : CR sh M x tl ld st ft sp tn tb rf dl yf im) (e : ∀ a, a = 11 ∨ (14 ≤ a ∧ a ≤ 26) ∨ (206 ≤ a ∧ a < 228) ∨ 264 ≤ a → M2 a = M a) (f14 : M2 0 14 = M 0 14) {ρ2 : Nat → Int} (hr : rc M2 3 = ρ2) (ht : ctlR M2 27 tl2) (h11 : M2 0 11 = ((tn2 : Nat) : Int)) (h12 : M2 0 12 = ld2) (h13 : M2 0 13 = st2) (h200 : M2 200 1 = ft2) (h98 : M2 98 0 = sp2) (h199 : M2 199 = tb2) (hc : CC (M2 205) rf2) (hA : coA (M2 202) (M2 203)) : CR sh M2 (ρ2, x.2) tl2 ld2 st2 ft2 sp2 tn2 tb2 rf2 dl yf im := by
  obtain ⟨-, h2, -, -, -, -, -, -, -, -, h12', h13'⟩ := h
  exact ⟨hr, LC_fr h2 (e _ (by omega)) (fun a h _ => e a (by omega)) (fun _ _ z => z), ht, h11, ⟨h12, h13⟩, h200, h98, h199, hc, hA, YC_fr h12' f14 (fun a h1 h2 => e a (by omega)), IC_fr h13' (e 26 (by omega)) (fun a h1 h2 => e a (by omega)) (fun a h _ => e a (by omega)) (fun _ _ z => z)⟩
theorem RR_all {ld2 ft2 sp2 dl2 : Int} {tn2 : Nat} {tb2 yf2 : Nat → Int} (h : RR M x tl ld st ft sp tn tb rf dl yf im) (e : ∀ a, a = 231 ∨ a = 232 ∨ a = 243 ∨ a = 244 ∨ a = 245 ∨ a = 261 → M2 a = M a) {ρ2 : Nat → Int} (hr : rr_ M2 = ρ2) (h9 : r9 M M2) (ht : tlR M2 tl2) (h13 : M2 228 13 = ((tn2 : Nat) : Int)) (h11 : M2 228 11 = ld2) (h1 : M2 228 1 = st2) (h18 : M2 228 18 = ft2) (h57 : M2 228 57 = sp2) (h237 : M2 237 = tb2) (hc : M2 229 = rf2) (h20 : M2 228 20 = 0) (h61 : M2 228 61 = dl2) (h263 : M2 263 = yf2) : RR M2 (ρ2, x.2) tl2 ld2 st2 ft2 sp2 tn2 tb2 rf2 dl2 yf2 im := by
  obtain ⟨-, g2, -, -, -, -, -, -, -, -, -, g14, g15⟩ := h
  refine ⟨hr, LR_eq g2 h9, ht, h13, ⟨h11, h1⟩, h18, h57, h237, hc, h20, ⟨h61, h263⟩, ?_, ?_⟩
  · unfold IR; rw [e 231 (by omega), e 232 (by omega)]; exact g14
  · unfold TB; rw [e 243 (by omega), e 244 (by omega), e 245 (by omega), e 261 (by omega)]; exact g15
/-- the law in force -/
def lwOf (x : sp_I) : List sp_C := if x.1 4 = -1 then [] else x.2.getD (x.1 4).toNat []
theorem lw_get (hI : IOK x) {n : Nat} (h : ((n : Nat) : Int) < x.1 3) : ∃ l, x.2[n]? = some l ∧ sp_rs l ∧ n < 6 := by
  have h3 := hI.2.2.1
  have hn : n < x.2.length := by omega
  refine ⟨x.2[n], List.getElem?_eq_getElem hn, hI.2.2.2 _ (List.getElem_mem hn), ?_⟩
  have := hI.1.2.2.2.1
  omega
theorem lw_T (hC : CR sh M x tl ld st ft sp tn tb rf dl yf im) (hI : IOK x) : px_lwT sh M 3 (lwOf x) := by
  have e4 : M 3 10 = x.1 4 := by rw [← hC.1]; rfl
  have e3 : M 3 9 = x.1 3 := by rw [← hC.1]; rfl
  have h4 := hI.1.2.2.2.2.1
  unfold lwOf
  by_cases z : x.1 4 = -1
  · rw [if_pos z]
    exact ⟨Or.inl ⟨e4.trans z, rfl⟩, fun y hy => by cases hy⟩
  · rw [if_neg z]
    obtain ⟨n, hn⟩ : ∃ n : Nat, x.1 4 = ((n : Nat) : Int) := ⟨(x.1 4).toNat, by omega⟩
    obtain ⟨l, g1, g2, g3⟩ := lw_get hI (n := n) (by omega)
    obtain ⟨t, N, C, k1, k2, k3⟩ := hC.2.1.2 n l g1
    have e : x.2.getD (x.1 4).toNat [] = l := by rw [hn, Int.toNat_natCast, List.getD_eq_getElem?_getD, g1]; rfl
    rw [e]
    exact ⟨Or.inr ⟨n, t, N, C, e4.trans hn, by rw [e3]; omega, g3, k1, k2, k3⟩, g2⟩
theorem lw_R (hR : RR M x tl ld st ft sp tn tb rf dl yf im) (hI : IOK x) : px_lwR M (lwOf x) := by
  have e4 : M 230 4 = x.1 4 := by rw [← hR.1]; rfl
  have h4 := hI.1.2.2.2.2.1
  unfold lwOf
  by_cases z : x.1 4 = -1
  · rw [if_pos z]
    exact ⟨Or.inl ⟨e4.trans z, rfl⟩, fun y hy => by cases hy⟩
  · rw [if_neg z]
    obtain ⟨n, hn⟩ : ∃ n : Nat, x.1 4 = ((n : Nat) : Int) := ⟨(x.1 4).toNat, by omega⟩
    obtain ⟨l, g1, g2, g3⟩ := lw_get hI (n := n) (by omega)
    have e : x.2.getD (x.1 4).toNat [] = l := by rw [hn, Int.toNat_natCast, List.getD_eq_getElem?_getD, g1]; rfl
    rw [e]
    exact ⟨Or.inr ⟨n, e4.trans hn, g3, hR.2.1 n l g1⟩, g2⟩
theorem CC_b {f : Nat → Int} (h : CC f rf) {v : Int} (hv : -6 ≤ v ∧ v ≠ -4) : CC (bmC f v) (bmp rf v) := by
  intro j hj
  unfold bmC bmp
  by_cases z : v < 0
  · rw [if_pos z, if_pos z]
    have := h j hj
    have e : (j = rsl v) ↔ (cj j = (-v).toNat) := by unfold rsl cj; split <;> split <;> omega
    by_cases y : j = rsl v
    · rw [if_pos y, if_pos (e.mp y), this]
    · rw [if_neg y, if_neg (fun q => y (e.mpr q)), this]
  · rw [if_neg z, if_neg z]
    exact h j hj
theorem bmp_b {n : Nat} (h : ∀ j, j < 7 → 0 ≤ rf j ∧ rf j ≤ ((n : Nat) : Int)) (v : Int) : ∀ j, j < 7 → 0 ≤ bmp rf v j ∧ bmp rf v j ≤ ((n + 1 : Nat) : Int) := by
  intro j hj
  have := h j hj
  unfold bmp
  split
  · dsimp only; split <;> omega
  · omega
theorem rf_b {n : Nat} (h : ∀ j, j < 7 → 0 ≤ rf j ∧ rf j ≤ ((n : Nat) : Int)) : ∀ j, j < 7 → 0 ≤ rf j ∧ rf j ≤ ((n + 1 : Nat) : Int) := fun j hj => by have := h j hj; omega
theorem CC_bd {f : Nat → Int} (h : CC f rf) {n : Nat} (hn : n ≤ 600) (hb : ∀ j, j < 7 → 0 ≤ rf j ∧ rf j ≤ ((n : Nat) : Int)) : ∀ j, j < 5 → 0 ≤ f j ∧ f j ≤ 1000000000 := by
  intro j hj
  have := hb (cj j) (by unfold cj; split <;> omega)
  rw [h j hj]
  omega
theorem rf_bd {n : Nat} (hn : n ≤ 600) (hb : ∀ j, j < 7 → 0 ≤ rf j ∧ rf j ≤ ((n : Nat) : Int)) : ∀ j, j < 7 → 0 ≤ rf j ∧ rf j ≤ 1000000000 := fun j hj => by have := hb j hj; omega
theorem trlOK_push {ρ ρ2 : Nat → Int} (h : trlOK ρ tl) {k : Int} (hk : 0 ≤ k ∧ k ≤ 4) (ho : sp_ok ρ) (h9 : ρ 5 ≤ 999) (e6 : ρ2 6 = ρ 6) (e7 : ρ2 7 = ρ 7) : trlOK ρ2 (tpush tl (k, ρ)) := by
  intro e he
  unfold tpush at he
  rcases List.mem_append.mp he with z | z
  · obtain ⟨a, b, c, d, f⟩ := h e (List.mem_of_mem_drop z)
    exact ⟨a, b, c, d.trans e6.symm, f.trans e7.symm⟩
  · rw [List.mem_singleton] at z
    subst z
    exact ⟨hk, ho, h9, e6.symm, e7.symm⟩
theorem trlOK_eq {ρ ρ2 : Nat → Int} (h : trlOK ρ tl) (e6 : ρ2 6 = ρ 6) (e7 : ρ2 7 = ρ 7) : trlOK ρ2 tl := fun e he => by
  obtain ⟨a, b, c, d, f⟩ := h e he
  exact ⟨a, b, c, d.trans e6.symm, f.trans e7.symm⟩
theorem trlOK_nil {ρ : Nat → Int} : trlOK ρ [] := fun e he => by cases he
end REL
/-- one call, answered alike -/
def AskS (xs : Nat → Int) (L d : Nat) (sh : List (Nat × Nat)) (M : Nat → Nat → Int) (n kc kr : Nat) (ar : List Value) : Prop := ∃ v sh2 M1 M2, px_Cl xs L d kc (.ref 0 :: ar) (sh, M) (some (.int (iI v))) (sh2, M1) ∧ px_Cl xs L d kr (.ref 228 :: ar) (sh2, M1) (some (.int (iI v))) (sh2, M2) ∧ JJ sh2 M2 (n + 1)
def AskSL (xs : Nat → Int) (L d : Nat) (sh : List (Nat × Nat)) (M : Nat → Nat → Int) (n kc kr : Nat) (ar : List Value) : Prop := ∃ v sh2 M1 M2, px_Cl xs L d kc (.ref 0 :: ar) (sh, M) (some (.long (lI v))) (sh2, M1) ∧ px_Cl xs L d kr (.ref 228 :: ar) (sh2, M1) (some (.long (lI v))) (sh2, M2) ∧ JJ sh2 M2 (n + 1)

/-! how the pure machine's state stands in the machine's -/
def px_dV (B t : Nat) (x : Int) : Value := if t = 1 then .long (lI x) else if t = 2 then (if x < 0 then .null else .ref (B + x.toNat)) else .int (iI x)
def px_E (B : Nat) (cA : Nat → ClassId) (kd n : Nat) (f : Nat → Int) : va_E :=
  if kd < 10 then .inr (kd, (List.range n).map (fun j => px_dV B (px_ty kd j) (f j)))
  else if kd ≤ 11 then .inl (cA (kd - 10), n, .inl (fun j => iI (f j)))
  else if kd = 12 then .inl (cA (kd - 10), n, .inr (.inl (fun j => lI (f j))))
  else .inl (cA (kd - 10), n, .inr (.inr (.inr (.inr (fun j => if f j < 0 then none else some (B + (f j).toNat))))))
def px_cat (h : px_H) (a : Nat) : Nat × Nat := h.1.getD a (0, 0)
def px_ws (B : Nat) (cA : Nat → ClassId) (h : px_H) : va_W := (List.range h.1.length).map (fun a => (B + a, px_E B cA (px_cat h a).1 (px_cat h a).2 (h.2 a)))
def px_tys (cA : Nat → ClassId) : List (ClassId × FieldType) := [(cA 0, .int), (cA 1, .boolean), (cA 2, .long), (cA 3, .object "SermonPanes$Text"), (cA 4, .object "SermonPanes$Nave"), (cA 5, .object "SermonPanes$Church")]
def px_wf (h : px_H) : Prop := ∀ a kd n : Nat, h.1[a]? = some (kd, n) → (kd < 10 → n = (px_C kd).2.2) ∧ kd ≤ 15
def px_Rep (B : Nat) (cA : Nat → ClassId) (D : va_G) (h : px_H) (H : Heap) : Prop := va_P D vwCl (px_ws B cA h) H ∧ va_D (fun q => B ≤ q) (px_ws B cA h) ∧ px_wf h
theorem px_ws_at {B : Nat} {cA : Nat → ClassId} {h : px_H} {a kd n : Nat} (e : h.1[a]? = some (kd, n)) : (px_ws B cA h)[a]? = some (B + a, px_E B cA kd n (h.2 a)) := by
  have hl : a < h.1.length := (List.getElem?_eq_some_iff.mp e).1
  have hc : px_cat h a = (kd, n) := by unfold px_cat; rw [List.getD_eq_getElem?_getD, e]; rfl
  unfold px_ws
  rw [List.getElem?_map, List.getElem?_range hl]
  simp only [Option.map_some, hc]
theorem px_ws_len {B : Nat} {cA : Nat → ClassId} {h : px_H} : (px_ws B cA h).length = h.1.length := by unfold px_ws; simp
theorem px_ws_inv {B : Nat} {cA : Nat → ClassId} {h : px_H} {a : Nat} {q : Nat × va_E} (e : (px_ws B cA h)[a]? = some q) : a < h.1.length ∧ q.1 = B + a := by
  have hl : a < (px_ws B cA h).length := (List.getElem?_eq_some_iff.mp e).1
  rw [px_ws_len] at hl
  unfold px_ws at e
  rw [List.getElem?_map, List.getElem?_range hl] at e
  simp only [Option.map_some, Option.some.injEq] at e
  exact ⟨hl, by rw [← e]⟩
theorem px_cl_self {M : Nat → Nat → Int} {a : Nat} {f : Nat → Int} : px_cl M a f a = f := by funext j; simp [px_cl]
theorem px_cl_ne {M : Nat → Nat → Int} {a i : Nat} {f : Nat → Int} (h : i ≠ a) : px_cl M a f i = M i := by funext j; simp [px_cl, h]
theorem px_ws_set {B : Nat} {cA : Nat → ClassId} {h : px_H} {a kd n : Nat} {f : Nat → Int} (e : h.1[a]? = some (kd, n)) : (px_ws B cA h).set a (B + a, px_E B cA kd n f) = px_ws B cA (h.1, px_cl h.2 a f) := by
  have hl : a < h.1.length := (List.getElem?_eq_some_iff.mp e).1
  have hc : px_cat h a = (kd, n) := by unfold px_cat; rw [List.getD_eq_getElem?_getD, e]; rfl
  apply List.ext_getElem?
  intro i
  by_cases hi : i = a
  · subst hi
    rw [List.getElem?_set_self (by rw [px_ws_len]; exact hl)]
    have e2 : (h.1, px_cl h.2 i f).1[i]? = some (kd, n) := e
    rw [px_ws_at e2]
    simp only [px_cl_self]
  · rw [List.getElem?_set_ne (fun q => hi q.symm)]
    unfold px_ws px_cat
    simp only [List.getElem?_map]
    by_cases hi2 : i < h.1.length
    · rw [List.getElem?_range hi2]
      simp only [Option.map_some, px_cl_ne hi]
    · rw [List.getElem?_eq_none (by simpa using hi2)]
      rfl
theorem px_ws_push {B : Nat} {cA : Nat → ClassId} {h : px_H} {kd n : Nat} {f : Nat → Int} : px_ws B cA h ++ [(B + h.1.length, px_E B cA kd n f)] = px_ws B cA (h.1 ++ [(kd, n)], px_cl h.2 h.1.length f) := by
  apply List.ext_getElem?
  intro i
  by_cases hi : i < h.1.length
  · rw [List.getElem?_append_left (by rw [px_ws_len]; exact hi)]
    unfold px_ws px_cat
    simp only [List.getElem?_map, List.length_append, List.length_singleton]
    rw [List.getElem?_range hi, List.getElem?_range (by omega)]
    have hne : i ≠ h.1.length := by omega
    simp only [Option.map_some, Option.some.injEq, Prod.mk.injEq, true_and, px_cl_ne hne]
    rw [List.getD_eq_getElem?_getD, List.getD_eq_getElem?_getD, List.getElem?_append_left hi]
  · by_cases he : i = h.1.length
    · subst he
      rw [List.getElem?_append_right (by rw [px_ws_len]; exact Nat.le_refl _), px_ws_len, Nat.sub_self]
      have e2 : ((h.1 ++ [(kd, n)], px_cl h.2 h.1.length f) : px_H).1[h.1.length]? = some (kd, n) := by simp
      rw [px_ws_at e2]
      simp only [px_cl_self]
      rfl
    · rw [List.getElem?_eq_none (by simp [px_ws_len]; omega), List.getElem?_eq_none (by simp [px_ws_len]; omega)]
theorem px_wf_set {h : px_H} {M : Nat → Nat → Int} (w : px_wf h) : px_wf (h.1, M) := w
theorem px_wf_push {h : px_H} {M : Nat → Nat → Int} {kd n : Nat} (w : px_wf h) (h1 : kd < 10 → n = (px_C kd).2.2) (h2 : kd ≤ 15) : px_wf (h.1 ++ [(kd, n)], M) := by
  unfold px_wf at w ⊢
  intro a k2 n2 e
  have e : (h.1 ++ [(kd, n)])[a]? = some (k2, n2) := e
  by_cases hi : a < h.1.length
  · rw [List.getElem?_append_left hi] at e
    exact w a k2 n2 e
  · rw [List.getElem?_append_right (by omega)] at e
    have hz : a - h.1.length < 1 := (List.getElem?_eq_some_iff.mp e).1
    rw [show a - h.1.length = 0 by omega] at e
    simp only [List.getElem?_cons_zero, Option.some.injEq, Prod.mk.injEq] at e
    obtain ⟨rfl, rfl⟩ := e
    exact ⟨h1, h2⟩
/-- the texts -/
def px_len : List Nat := px_stb.map (fun q => q.2.2.1.toList.length)
def px_byt : List (List Int32) := px_stb.map (fun q => q.2.2.1.toList.map (fun c => iI (c.toNat : Int)))
/-- what a state says for ever: tables, texts, the script, statics -/
def px_St (B b L : Nat) (xs : Nat → Int) (adK adV : Nat → Nat) (fm : Value) (D : va_G) (cA : Nat → ClassId) (U : State) (H : Heap) : Prop :=
  va_K D vwCl (px_tys cA) U ∧ (∀ w ∈ px_nw, va_Nw w U) ∧ (∀ t q, px_stb[t]? = some q → vk_R (px_cn q.1) q.2.1 q.2.2.1 (adK t) U) ∧ vk_S 14 px_len px_byt adK adV (fun q => B ≤ q) U H
  ∧ va_X b L (fun j => iI (xs j)) U H ∧ b < B ∧ B ≤ H.size ∧ va_Z "java/lang/String" "COMPACT_STRINGS" "Z" (.int 1) (fun q => B ≤ q) U H
  ∧ va_Z "jdk/internal/util/Preconditions" "SIOOBE_FORMATTER" "Ljava/util/function/BiFunction;" fm (fun q => B ≤ q) U H ∧ (fm = .null ∨ ∃ a, fm = .ref a) ∧ fm.category = 1 ∧ va_AO "SermonPanes$Text" U ∧ va_AO "SermonPanes$Nave" U ∧ va_AO "SermonPanes$Church" U ∧ L < 2 ^ 31
theorem px_nw_nest {w : Cond} (h : w ∈ px_nw) : ∃ a i x y, w = .methodLinkNest a i x y := by
  have h2 := (List.mem_filter.mp h).2
  cases w <;> first | exact ⟨_, _, _, _, rfl⟩ | exact absurd h2 (by simp [px_isN])
theorem px_St_moved {B b L : Nat} {xs : Nat → Int} {adK adV : Nat → Nat} {fm : Value} {D : va_G} {cA : Nat → ClassId} {u U : State} {H H1 : Heap} (hW : u.WarmedH U.vm) (hz : H.size ≤ H1.size) (ho : ∀ q : Nat, q < H.size → ¬ B ≤ q → H1[q]? = H[q]?) (h : px_St B b L xs adK adV fm D cA u H) : px_St B b L xs adK adV fm D cA U H1 := by
  obtain ⟨h1, h2, h3, h4, h5, h6, h7, h8, h9, h90, h10, h11, h12, h13, h14⟩ := h
  have al : u.vm.Alike U.vm := hW.alike
  refine ⟨va_K.moved al h1, ?_, fun t q e => vk_R.warm hW (h3 t q e), vk_S.moved al (h4.kept ho), va_X.moved al (h5.kept (ho b (by omega) (by omega))), h6, by omega, va_Z.moved al (h8.kept ho), va_Z.moved al (h9.kept ho), h90, h10, va_AO.moved al h11, va_AO.moved al h12, va_AO.moved al h13, h14⟩
  intro w hw
  obtain ⟨a, i, x, y, rfl⟩ := px_nw_nest hw
  exact va_Nw.warmM hW (h2 _ hw)
/-- values -/
def px_ra (b : Nat) (adK adV : Nat → Nat) (fm : Value) (n : Nat) : Value := if n = 0 then .ref b else if n ≤ 14 then .ref (adK (n - 1)) else if n < 114 then .ref (adV (n - 100)) else fm
def px_phi (B b : Nat) (adK adV : Nat → Nat) (fm : Value) (v : Value) : Value := match v with
  | .ref a => .ref (B + a)
  | .retAddr n => px_ra b adK adV fm n
  | v => v
theorem px_phi_dec {B b : Nat} {adK adV : Nat → Nat} {fm : Value} (t : Nat) (x : Int) : px_phi B b adK adV fm (px_dec t x) = px_dV B t x := by
  unfold px_dec px_dV
  split
  · rfl
  · split
    · split <;> rfl
    · rfl
theorem px_phi_cat {B b : Nat} {adK adV : Nat → Nat} {fm : Value} (hf : fm.category = 1) (v : Value) : (px_phi B b adK adV fm v).category = v.category := by
  cases v <;> try rfl
  show (px_ra b adK adV fm _).category = 1
  unfold px_ra
  split
  · rfl
  · split
    · rfl
    · split
      · rfl
      · exact hf
def px_ok (v : Value) : Bool := match v with
  | .float _ => false
  | .double _ => false
  | _ => true
def px_al (φ : Value → Value) (ls : List Value) : List (Nat × Value) := (List.range ls.length).filterMap (fun i => match ls[i]? with
  | some v => if px_ok v = true then some (i, φ v) else none
  | none => none)
theorem px_al_mem {φ : Value → Value} {ls : List Value} {q : Nat × Value} : q ∈ px_al φ ls ↔ ∃ v, ls[q.1]? = some v ∧ px_ok v = true ∧ q.2 = φ v := by
  unfold px_al
  rw [List.mem_filterMap]
  constructor
  · rintro ⟨i, hi, h⟩
    cases e : ls[i]? with
    | none => rw [e] at h; cases h
    | some v =>
      rw [e] at h
      simp only at h
      split at h
      · rename_i hk
        cases h
        exact ⟨v, e, hk, rfl⟩
      · cases h
  · rintro ⟨v, e, hk, h⟩
    refine ⟨q.1, List.mem_range.mpr (List.getElem?_eq_some_iff.mp e).1, ?_⟩
    rw [e]
    simp only [hk, if_true, ← h]
def px_LV (φ : Value → Value) (n : Nat) (ls : List Value) (ml : Array Slot) : Prop := ls.length = n ∧ lv_has ml n (px_al φ ls)
theorem px_LV_get {φ : Value → Value} {n : Nat} {ls : List Value} {ml : Array Slot} (h : px_LV φ n ls ml) {i : Nat} {v : Value} (e : ls[i]? = some v) (hk : px_ok v = true) : ml[i]? = some (.val (φ v)) := h.2.2.2 (i, φ v) (px_al_mem.mpr ⟨v, e, hk, rfl⟩)
theorem px_set_len (ls : List Value) (i : Nat) (v : Value) : (px_set ls i v).length = ls.length := by
  unfold px_set
  split
  · simp
  · split <;> simp
theorem px_set_get {ls : List Value} {i : Nat} {v : Value} {j : Nat} {w : Value} (e : (px_set ls i v)[j]? = some w) (hk : px_ok w = true) : (j = i ∧ w = v) ∨ (j ≠ i ∧ ls[j]? = some w ∧ ¬ (j + 1 = i ∧ w.category = 2 ∧ ∃ x, w = .long x)) := by
  unfold px_set at e
  cases i with
  | zero =>
    simp only at e
    by_cases hj : j = 0
    · subst hj
      have hl := (List.getElem?_eq_some_iff.mp e).1
      rw [List.length_set] at hl
      rw [List.getElem?_set_self hl] at e
      exact Or.inl ⟨rfl, (Option.some.inj e).symm⟩
    · rw [List.getElem?_set_ne (fun q => hj q.symm)] at e
      exact Or.inr ⟨hj, e, fun q => by omega⟩
  | succ i =>
    simp only at e
    have base : ∀ (l2 : List Value), (l2.set (i + 1) v)[j]? = some w → (j = i + 1 ∧ w = v) ∨ (j ≠ i + 1 ∧ l2[j]? = some w) := by
      intro l2 e
      by_cases hj : j = i + 1
      · subst hj
        have hl := (List.getElem?_eq_some_iff.mp e).1
        rw [List.length_set] at hl
        rw [List.getElem?_set_self hl] at e
        exact Or.inl ⟨rfl, (Option.some.inj e).symm⟩
      · rw [List.getElem?_set_ne (fun q => hj q.symm)] at e
        exact Or.inr ⟨hj, e⟩
    split at e
    · rename_i x hx
      rcases base _ e with h | ⟨h1, h2⟩
      · exact Or.inl h
      · by_cases hji : j = i
        · subst hji
          rw [List.getElem?_set_self (List.getElem?_eq_some_iff.mp hx).1] at h2
          cases h2
          cases hk
        · rw [List.getElem?_set_ne (fun q => hji q.symm)] at h2
          exact Or.inr ⟨h1, h2, fun q => by omega⟩
    · rename_i hx
      rcases base _ e with h | ⟨h1, h2⟩
      · exact Or.inl h
      · refine Or.inr ⟨h1, h2, ?_⟩
        rintro ⟨q1, -, x, rfl⟩
        have : j = i := by omega
        subst this
        exact hx x h2
theorem px_cat2 {v : Value} (h : v.category = 2) (hp : px_ok v = true) : ∃ x, v = .long x := by
  cases v <;> simp [Value.category, px_ok] at h hp
  exact ⟨_, rfl⟩
theorem px_LV_set {φ : Value → Value} (hφ : ∀ v, (φ v).category = v.category) {n : Nat} {ls : List Value} {ml : Array Slot} (h : px_LV φ n ls ml) {i : Nat} {v : Value} {lv' : List (Nat × Value)} (hl : (i, φ v) :: (px_al φ ls).filter (fun q => !(q.1 == i) && !(q.1 + 1 == i && q.2.category == 2)) = lv') {ml' : Array Slot} (h' : lv_has ml' n lv') : px_LV φ n (px_set ls i v) ml' := by
  refine ⟨(px_set_len ls i v).trans h.1, h'.1, h'.2.1, fun q hq => ?_⟩
  obtain ⟨w, e, hk, hw⟩ := px_al_mem.mp hq
  rw [hw]
  rcases px_set_get e hk with ⟨h1, h2⟩ | ⟨h1, h2, h3⟩
  · subst h2
    rw [h1]
    exact h'.2.2 (i, φ w) (by rw [← hl]; exact List.mem_cons_self)
  · refine h'.2.2 (q.1, φ w) ?_
    rw [← hl]
    refine List.mem_cons_of_mem _ (List.mem_filter.mpr ⟨px_al_mem.mpr ⟨w, h2, hk, rfl⟩, ?_⟩)
    simp only [Bool.and_eq_true, Bool.not_eq_true', beq_eq_false_iff_ne, ne_eq, Bool.and_eq_false_iff]
    refine ⟨h1, ?_⟩
    by_cases hc : w.category = 2
    · refine Or.inl fun z => h3 ⟨z, hc, px_cat2 hc hk⟩
    · exact Or.inr (by rw [hφ]; exact hc)
theorem px_LV_set2 {φ : Value → Value} (hφ : ∀ v, (φ v).category = v.category) {n : Nat} {ls : List Value} {ml : Array Slot} (h : px_LV φ n ls ml) {i : Nat} {v : Value} {lv' : List (Nat × Value)} (hl : (i, φ v) :: (px_al φ ls).filter (fun q => !(q.1 == i) && (!(q.1 == i + 1) && !(q.1 + 1 == i && q.2.category == 2))) = lv') {ml' : Array Slot} (h' : lv_has ml' n lv') : px_LV φ n (px_set2 ls i v) ml' := by
  refine ⟨by unfold px_set2; rw [List.length_set]; exact (px_set_len ls i v).trans h.1, h'.1, h'.2.1, fun q hq => ?_⟩
  obtain ⟨w, e, hk, hw⟩ := px_al_mem.mp hq
  rw [hw]
  unfold px_set2 at e
  by_cases hq1 : q.1 = i + 1
  · rw [hq1] at e
    have hl2 := (List.getElem?_eq_some_iff.mp e).1
    rw [List.length_set] at hl2
    rw [List.getElem?_set_self hl2] at e
    cases e
    cases hk
  · rw [List.getElem?_set_ne (fun z => hq1 z.symm)] at e
    rcases px_set_get e hk with ⟨h1, h2⟩ | ⟨h1, h2, h3⟩
    · subst h2
      rw [h1]
      exact h'.2.2 (i, φ w) (by rw [← hl]; exact List.mem_cons_self)
    · refine h'.2.2 (q.1, φ w) ?_
      rw [← hl]
      refine List.mem_cons_of_mem _ (List.mem_filter.mpr ⟨px_al_mem.mpr ⟨w, h2, hk, rfl⟩, ?_⟩)
      simp only [Bool.and_eq_true, Bool.not_eq_true', beq_eq_false_iff_ne, ne_eq, Bool.and_eq_false_iff]
      refine ⟨h1, hq1, ?_⟩
      by_cases hc : w.category = 2
      · refine Or.inl fun z => h3 ⟨z, hc, px_cat2 hc hk⟩
      · exact Or.inr (by rw [hφ]; exact hc)

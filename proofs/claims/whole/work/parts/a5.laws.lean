/-! a law, read by both -/
theorem getL {l : List tC} {c : Nat} {x : sp_C} (hx : (l.map toL)[c]? = some x) : ∃ y, l[c]? = some y ∧ x = toL y := by
  rw [List.getElem?_map] at hx
  cases hl : l[c]? with
  | none => rw [hl] at hx; cases hx
  | some y => rw [hl] at hx; exact ⟨y, rfl, (Option.some.inj hx).symm⟩
theorem lwX_v {g : Nat → Int} {n nl : Nat} {c : Nat → Int} {nc : Nat} {o a : Nat → Int} : lwX g n nl c nc o a (1 + (110 + 900 * n)) = ((nl : Nat) : Int) ∧ (∀ j, j < 8 * nl → lwX g n nl c nc o a (900 * n + 112 + j) = c j ∨ 96 ≤ j) ∧ ∀ k, k < nc → lwX g n nl c nc o a (98 + 2 * k + (110 + 900 * n)) = o k ∧ lwX g n nl c nc o a (99 + 2 * k + (110 + 900 * n)) = a k := by
  unfold lwX
  refine ⟨?_, fun j hj => ?_, fun k hk => ⟨?_, ?_⟩⟩
  · rw [fup_n (by omega)]
    unfold cpC
    rw [if_neg (by omega)]
    unfold cpW
    rw [if_neg (by omega), show 1 + (110 + 900 * n) = 900 * n + 111 by omega, fup_s]
  · by_cases h96 : 96 ≤ j
    · exact Or.inr h96
    · left
      rw [fup_n (by omega)]
      unfold cpC
      rw [if_neg (by omega)]
      unfold cpW
      rw [if_pos (by omega)]
      congr 1; omega
  · rw [fup_n (by omega)]
    unfold cpC
    rw [if_pos (by omega), if_pos (by omega)]
    congr 1; omega
  · rw [fup_n (by omega)]
    unfold cpC
    rw [if_pos (by omega), if_neg (by omega)]
    congr 1; omega
theorem text_laws {E : rdE} {lw : Nat → Int} (hE : hEw E) (hod : E.od = 0) (hlw : ∀ k, k < 4 → lw k = hw 1 k) (htn : E.tn ≤ 400) (o a g o2 a2 cm : Nat → Int) {R : cR} (hR : R = cRead E o a g) {Z : lwQ} (hZ : Z = lwR E (lwT E lw) 401 (lwT E lw (rB0 o2 a2, 0, cm))) : (R.1 = true ↔ Z.1.flt = 0 ∧ rK E Z.1 = 0) ∧ (R.1 = false → (if Z.1.flt = 0 ∧ rK E Z.1 ≠ 0 then ((tkS E.tn E.tb Z.1.i : Nat) : Int) else Z.1.bad) = R.2.1.flt) ∧ (R.1 = true → R.2.1.flt = -1 ∧ Z.1.bad = -1) ∧ ∃ l : List tC, R.1 = true → (R.2.2.1 = l.length ∧ l.length ≤ 12 ∧ R.2.1.sz ≤ 400 ∧ ∀ c x, l[c]? = some x → tcK E x ∧ tcC E R.2.1 R.2.2.2 c x) ∧ ∀ g9 n, rl_den (lwX g9 n Z.2.1 Z.2.2 Z.1.nc Z.1.o Z.1.a) (110 + 900 * n) (l.map toL) := by
  have h := sim_text (TQ_lw hE hod hlw) htn o a g o2 a2 cm
  rw [← hR, ← hZ] at h
  obtain ⟨h1, h2⟩ := h
  refine ⟨⟨fun z => (h1 z).1, fun z => ?_⟩, fun z => (h2 z).2, fun z => ?_, ?_⟩
  · cases hb : R.1 with
    | true => rfl
    | false => exact absurd z (h2 hb).1
  · obtain ⟨-, l, t1, t2, t3, -⟩ := h1 z
    exact t3
  · by_cases hb : R.1 = true
    · obtain ⟨-, l, t1, t2, t3, ⟨t4, t5, t6⟩, t7⟩ := h1 hb
      have hi : Z.1.i ≤ E.tn := sp_i t1
      have hsz : R.2.1.sz ≤ 400 := by have := t1.2.2.2.2.1; have := t1.2.2.2.1; omega
      refine ⟨l, fun _ => ⟨⟨t4, t6, hsz, fun c x hx => ⟨(t7 c x hx).1, (t7 c x hx).2.1⟩⟩, fun g9 n => ?_⟩⟩
      obtain ⟨x1, x2, x3⟩ := lwX_v (g := g9) (n := n) (nl := Z.2.1) (c := Z.2.2) (nc := Z.1.nc) (o := Z.1.o) (a := Z.1.a)
      refine ⟨by rw [x1, List.length_map, t5], by rw [List.length_map]; exact t6, fun c hc => ?_⟩
      rw [List.length_map] at hc
      obtain ⟨y, hy⟩ : ∃ y, l[c]? = some y := ⟨l[c], List.getElem?_eq_getElem hc⟩
      obtain ⟨u1, u2, u3⟩ := t7 c y hy
      refine ⟨toL y, by rw [List.getElem?_map, hy]; rfl, rl_of hod u3 u1 (by omega) (fun j hj => ?_) x3⟩
      rcases x2 (8 * c + j) (by omega) with z | z
      · rw [← z]; congr 1; omega
      · omega
    · exact ⟨[], fun z => absurd z hb⟩
/-- the text at t, holding what was read, means the same -/
theorem den_all {E : rdE} (hod : E.od = 0) {sh : List (Nat × Nat)} {M : Nat → Nat → Int} {t N C : Nat} {l : List tC} {c : cS} {g : Nat → Int} (hT : px_tx sh M t N C) (h4 : M t 4 = ((l.length : Nat) : Int)) (hC : l.length ≤ C) (hl : ∀ i x, l[i]? = some x → tcK E x ∧ tcC E c g i x) (hA : cA c) (hN : c.sz ≤ N) (hz : ∀ i, i < N → i < c.sz ∨ (M (t + 1) i = 0 ∧ M (t + 2) i = 0)) (e : ∀ j, j < c.sz → M (t + 1) j = c.o j ∧ M (t + 2) j = c.a j) (eg : ∀ j, j < 8 * l.length → M (t + 3) j = g j) : px_den sh M t N C (l.map toL) := by
  refine ⟨hT, by rw [List.length_map]; exact h4, by rw [List.length_map]; exact hC, fun i hi => ?_, fun i hi => ?_, fun i hi => ?_⟩
  · rcases hz i hi with y | y
    · rw [(e i y).2]; exact hA.1.1 i (by have := hA.2; omega)
    · rw [y.2]; omega
  · rcases hz i hi with y | y
    · rw [(e i y).1]; exact hA.1.2 i (by have := hA.2; omega)
    · rw [y.1]; omega
  · rw [List.length_map] at hi
    obtain ⟨x, hx⟩ : ∃ x, l[i]? = some x := ⟨l[i], List.getElem?_eq_getElem hi⟩
    obtain ⟨k1, k2⟩ := hl i x hx
    exact ⟨toL x, by rw [List.getElem?_map, hx]; rfl, den_of hod k2 k1 e (fun j hj => eg j (by omega)) hN⟩

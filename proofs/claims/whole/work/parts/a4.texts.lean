/-! what the class's reader writes is bounded -/
def cA (s : cS) : Prop := coA s.o s.a ∧ s.sz ≤ 400
def kpA (g : cS → Bool × cS) : Prop := ∀ s, cA s → cA (g s).2
theorem cA_ad {op arg : Int} {s : cS} (h : cA s) (h1 : 0 ≤ op) (h2 : 0 ≤ arg ∧ arg ≤ 1000000000) : cA (cad op arg s) := by
  unfold cad
  split
  · obtain ⟨⟨a1, a2⟩, a3⟩ := h
    refine ⟨⟨fun i hi => ?_, fun i hi => ?_⟩, by show s.sz + 1 ≤ 400; omega⟩
    · show 0 ≤ fup s.a s.sz arg i ∧ fup s.a s.sz arg i ≤ 1000000000
      unfold fup; split
      · exact h2
      · exact a1 i hi
    · show 0 ≤ fup s.o s.sz op i
      unfold fup; split
      · exact h1
      · exact a2 i hi
  · exact h
theorem cA_aim {d : Nat} {s : cS} (h : cA s) : cA (aim d s) := by
  unfold aim
  split
  · obtain ⟨⟨a1, a2⟩, a3⟩ := h
    refine ⟨⟨fun i hi => ?_, a2⟩, a3⟩
    show 0 ≤ fup s.a d ((s.sz : Nat) : Int) i ∧ fup s.a d ((s.sz : Nat) : Int) i ≤ 1000000000
    unfold fup; split
    · omega
    · exact a1 i hi
  · exact h
theorem kA_lf {E : rdE} : kpA (cLf E) := by
  intro s h
  have hw2 : cK E s = 2 → 0 ≤ cW E s := fun z => (tkW_2 z).1
  have hw3 : cK E (cnx E (cpi s)) = 2 → 0 ≤ cW E (cnx E (cpi s)) := fun z => (tkW_2 z).1
  unfold cLf
  split
  · exact h
  · split
    · rename_i z
      exact cA_ad (s := cpi s) h (by decide) ⟨hw2 z.1, by omega⟩
    · split
      · unfold cOw
        have hb : -1 ≤ cOk E (cpi s) ∧ cOk E (cpi s) < 9 := kAt_b _ _ _ 9
        split
        · exact h
        · split
          · exact cA_ad (s := cbk (cOk E (cpi s)) (cnx E (cpi s))) h (by decide) (by omega)
          · by_cases z : cK E (cnx E (cpi s)) = 2 ∧ cW E (cnx E (cpi s)) ≤ (if cOk E (cpi s) = 8 then 5 else 15)
            · rw [if_pos z]
              have := hw3 z.1
              have hz := z.2
              refine cA_ad (s := cnx E (cpi s)) h (by decide) ?_
              by_cases e8 : cOk E (cpi s) = 8
              · rw [if_pos e8] at hz ⊢; omega
              · rw [if_neg e8] at hz ⊢; omega
            · rw [if_neg z]; exact h
      · unfold cLw
        have hb : -1 ≤ kAt (hw 3) (cK E (cpi s)) (cW E (cpi s)) 12 ∧ kAt (hw 3) (cK E (cpi s)) (cW E (cpi s)) 12 < 12 := kAt_b _ _ _ 12
        split
        · exact h
        · exact cA_ad (s := cpi s) h (by decide) (by omega)
def kpN (nest : Option (cS → Bool × cS)) : Prop := ∀ f, nest = some f → kpA f
theorem kA_br {E : rdE} {x : Int} {f : cS → Bool × cS} (hf : kpA f) {s : cS} (h : cA s) : cA (if (f (cnx E s)).1 = true then (if csg E x (f (cnx E s)).2 then (true, cnx E (f (cnx E s)).2) else (false, cfl E (f (cnx E s)).2)) else (false, (f (cnx E s)).2) : Bool × cS).2 := by
  have h1 : cA (f (cnx E s)).2 := hf _ h
  split
  · split
    · exact h1
    · exact h1
  · exact h1
theorem kA_prt {E : rdE} {nest : Option (cS → Bool × cS)} (hn : kpN nest) : kpA (cPrt E nest) := by
  intro s h
  unfold cPrt
  split
  · cases nest with
    | none => exact h
    | some f => exact kA_br (x := 93) (hn f rfl) h
  · exact kA_lf s h
theorem sgO_0 {E : rdE} {t : Nat} {fo : Int} {s : cS} (hfo : 0 ≤ fo ∧ fo ≤ 20) (h : sgO E t fo s ≠ -1) : 0 ≤ sgO E t fo s := by
  have := (sgF_b (t := t) (K := cK E s) (W := cW E s) hfo (px_txt t).length 0).1
  unfold sgO at *
  omega
theorem kA_bl {E : rdE} {t : Nat} {fo : Int} {g : cS → Bool × cS} (hfo : 0 ≤ fo ∧ fo ≤ 20) (hg : kpA g) : ∀ f r, cA r.2 → cA (bLp E t fo g f r).2 := by
  intro f
  induction f with
  | zero => intro r h; exact h
  | succ f ih =>
    intro r h
    rw [bLp]
    split
    · rename_i z
      refine ih _ ?_
      exact cA_ad (hg _ h) (sgO_0 hfo z.2) (by omega)
    · exact h
theorem kA_sum {E : rdE} {nest : Option (cS → Bool × cS)} (hn : kpN nest) : kpA (cSum E nest) := by
  have h1 : kpA (cTrm E nest) := fun s h => kA_bl (by omega) (kA_prt hn) 400 _ (kA_prt hn s h)
  exact fun s h => kA_bl (by omega) h1 400 _ (h1 s h)
theorem kA_sm {E : rdE} : ∀ D, kpA (cSm E D) := by
  intro D
  induction D with
  | zero => exact kA_sum (fun f z => by cases z)
  | succ D ih => exact kA_sum (fun f z => by cases z; exact ih)
theorem kA_nl {E : rdE} : ∀ f (r : Bool × cS), cA r.2 → cA (nLp E f r).2 := by
  intro f
  induction f with
  | zero => intro r h; exact h
  | succ f ih =>
    intro r h
    rw [nLp]
    split
    · exact ih _ h
    · exact h
theorem kA_pln {E : rdE} {nest : Option (cS → Bool × cS)} {sm : cS → Bool × cS} (hn : kpN nest) (hs : kpA sm) : kpA (cPln E nest sm) := by
  intro s h
  unfold cPln
  have h1 := kA_nl (E := E) 400 (false, s) h
  obtain ⟨u, hu⟩ : ∃ u, u = (nLp E 400 (false, s)).2 := ⟨_, rfl⟩
  rw [← hu] at h1 ⊢
  have h2 : cA (cPb E nest sm u).2 := by
    unfold cPb
    split
    · cases nest with
      | none => exact h1
      | some f => exact kA_br (x := 41) (hn f rfl) h1
    · have h3 : cA (sm u).2 := hs u h1
      split
      · split
        · exact h3
        · rename_i z
          exact cA_ad (hs (cnx E (sm u).2) h3) (sgO_0 (by omega) z) (by omega)
      · exact h3
  unfold cFin
  split
  · exact cA_ad h2 (by decide) (by omega)
  · exact h2
theorem kA_jl {E : rdE} {t : Nat} {op : Int} {g : cS → Bool × cS} (ho : 0 ≤ op) (hg : kpA g) : ∀ f r, cA r.2 → cA (jLp E t op g f r).2 := by
  intro f
  induction f with
  | zero => intro r h; exact h
  | succ f ih =>
    intro r h
    rw [jLp]
    split
    · exact ih _ (cA_aim (hg _ (cA_ad h ho (by omega))))
    · exact h
theorem kA_tst {E : rdE} {nest : Option (cS → Bool × cS)} {sm : cS → Bool × cS} (hn : kpN nest) (hs : kpA sm) : kpA (cTst E nest sm) := by
  have h0 := kA_pln (E := E) hn hs
  have h1 : kpA (cBth E nest sm) := fun s h => kA_jl (by decide) h0 400 _ (h0 s h)
  exact fun s h => kA_jl (by decide) h1 400 _ (h1 s h)
theorem kA_ts {E : rdE} : ∀ D, kpA (cTs E D) := by
  intro D
  induction D with
  | zero => exact kA_tst (fun f z => by cases z) (kA_sm 0)
  | succ D ih => exact kA_tst (fun f z => by cases z; exact ih) (kA_sm (D + 1))
theorem kA_as {E : rdE} {p : Nat} {s : cS} {g : Nat → Int} (h : cA s) : cA (sAs E p s g).2.1 := kA_sm 8 s h
theorem kA_cl {E : rdE} {cl : Nat} {s : cS} {g : Nat → Int} (h : cA s) : cA (cCl E cl s g).2.1 := by
  unfold cCl
  split
  · exact h
  · have h1 : ∀ k g, cA (cC1 E cl k (cnx E s) g).2.1 := by
      intro k g
      unfold cC1
      by_cases z : k = (if E.od = 1 then 4 else 3)
      · rw [if_pos z]; exact h
      · rw [if_neg z]; exact kA_as (s := cnx E s) h
    have hw : ∀ t (q : cQ), cA q.2.1 → cA (wsm E cl t q.2.1 q.2.2).2.1 := by
      intro t q hq
      unfold wsm
      split
      · exact kA_as (s := cnx E q.2.1) hq
      · exact hq
    have h2 : ∀ k (q : cQ), cA q.2.1 → cA (cC2 E cl k q).2.1 := by
      intro k q hq
      unfold cC2
      split
      · exact hw 6 q hq
      · split
        · exact hw 7 q hq
        · exact hq
    have h3 : ∀ (q : cQ), cA q.2.1 → cA (cC3 E cl q).2.1 := by
      intro q hq
      unfold cC3
      split
      · unfold ofn
        split
        · exact hq
        · exact hq
      · exact hq
    have h4 : ∀ p (q : cQ), cA q.2.1 → cA (cIf E p q).2.1 := by
      intro p q hq
      unfold cIf
      split
      · exact kA_ts 8 (cnx E q.2.1) hq
      · exact hq
    exact h4 _ _ (h3 _ (h2 _ _ (h1 _ _)))
theorem kA_lp {E : rdE} : ∀ f (r : cR), cA r.2.1 → cA (rLp E f r).2.1 := by
  intro f
  induction f with
  | zero => intro r h; exact h
  | succ f ih =>
    intro r h
    rw [rLp]
    split
    · refine ih _ ?_
      unfold cRs
      split
      · split
        · exact kA_cl (s := cnx E r.2.1) h
        · exact h
      · exact h
    · exact h
theorem kA_read {E : rdE} {o a g : Nat → Int} (h : coA o a) : cA (cRead E o a g).2.1 := kA_lp 400 _ (kA_cl (s := cS0 o a) ⟨h, by show 0 ≤ 400; omega⟩)
/-! both texts, as the contracts want them -/
theorem text_orders {E : rdE} {lo : Nat → Int} (hE : hEw E) (hod : E.od = 1) (hlo : ∀ k, k < 5 → lo k = hw 0 (lof k)) (htn : E.tn ≤ 400) (o a g o2 a2 cm : Nat → Int) {R : cR} (hR : R = cRead E o a g) {Z : lwQ} (hZ : Z = lwR E (odT E lo) 401 (odT E lo (rB0 o2 a2, 0, cm))) : (R.1 = true ↔ Z.1.flt = 0 ∧ rK E Z.1 = 0) ∧ (R.1 = false → (if Z.1.flt = 0 ∧ rK E Z.1 ≠ 0 then ((tkS E.tn E.tb Z.1.i : Nat) : Int) else Z.1.bad) = R.2.1.flt) ∧ (R.1 = true → R.2.1.flt = -1 ∧ Z.1.bad = -1) ∧ ∃ ol : List od_C, R.1 = true → (R.2.2.1 = ol.length ∧ ol.length ≤ 12 ∧ ∀ c x, ol[c]? = some x → co_cl R.2.1.o R.2.1.a R.2.2.2 R.2.1.ab c x) ∧ Z.2.1 = ol.length ∧ ∀ c x, ol[c]? = some x → ro_cl Z.2.2 Z.1.o Z.1.a c x := by
  have h := sim_text (TQ_od hE hod hlo) htn o a g o2 a2 cm
  rw [← hR, ← hZ] at h
  obtain ⟨h1, h2⟩ := h
  refine ⟨⟨fun z => (h1 z).1, fun z => ?_⟩, fun z => (h2 z).2, fun z => ?_, ?_⟩
  · cases hb : R.1 with
    | true => rfl
    | false => exact absurd z (h2 hb).1
  · obtain ⟨-, l, t1, t2, t3, -⟩ := h1 z
    exact t3
  · by_cases hb : R.1 = true
    · obtain ⟨-, l, t1, t2, t3, ⟨t4, t5, t6⟩, t7⟩ := h1 hb
      have hi : Z.1.i ≤ E.tn := sp_i t1
      have hsz : R.2.1.sz ≤ 400 := by have := t1.2.2.2.2.1; have := t1.2.2.2.1; omega
      have get : ∀ (c : Nat) (x : od_C), (l.map toO)[c]? = some x → ∃ y, l[c]? = some y ∧ x = toO y := by
        intro c x hx
        rw [List.getElem?_map] at hx
        cases hl : l[c]? with
        | none => rw [hl] at hx; cases hx
        | some y => rw [hl] at hx; exact ⟨y, rfl, (Option.some.inj hx).symm⟩
      refine ⟨l.map toO, fun _ => ⟨⟨by rw [List.length_map]; exact t4, by rw [List.length_map]; exact t6, fun c x hx => ?_⟩, by rw [List.length_map]; exact t5, fun c x hx => ?_⟩⟩
      · obtain ⟨y, hy, rfl⟩ := get c x hx
        obtain ⟨u1, u2, u3⟩ := t7 c y hy
        exact co_of hod u2 u1 hsz
      · obtain ⟨y, hy, rfl⟩ := get c x hx
        obtain ⟨u1, u2, u3⟩ := t7 c y hy
        exact ro_of hod u3 u1 (by omega)
    · exact ⟨[], fun z => absurd z hb⟩

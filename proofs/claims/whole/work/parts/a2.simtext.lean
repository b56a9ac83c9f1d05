/-! the two readers: a text -/
theorem tcC_gr {E : rdE} {c c2 : cS} {s s2 : rdS} {g g2 : Nat → Int} {i : Nat} {x : tC} (h : tcC E c g i x) (hg : GR E c s c2 s2) (e : ∀ j, j < 8 * i + 8 → g2 j = g j) : tcC E c2 g2 i x := by
  obtain ⟨h1, h2, h3, h4, h5⟩ := h
  exact ⟨(e _ (by omega)).trans h1, (e _ (by omega)).trans h2, pcC_gr h3 hg (e _ (by omega)) (e _ (by omega)), pcC_gr h4 hg (e _ (by omega)) (e _ (by omega)), pcC_gr h5 hg (e _ (by omega)) (e _ (by omega))⟩
theorem tcR_gr {E : rdE} {c c2 : cS} {s s2 : rdS} {g g2 : Nat → Int} {i : Nat} {x : tC} (h : tcR E s g i x) (hg : GR E c s c2 s2) (e : ∀ j, j < 8 * i + 8 → g2 j = g j) : tcR E s2 g2 i x := by
  refine ⟨fun z => ?_, fun z => ?_⟩
  · obtain ⟨h1, h2, h3⟩ := h.1 z
    exact ⟨(e _ (by omega)).trans h1, pcR_gr h2 hg (e _ (by omega)) (e _ (by omega)), pcR_gr h3 hg (e _ (by omega)) (e _ (by omega))⟩
  · obtain ⟨h1, h2, h3, h4, h5⟩ := h.2 z
    exact ⟨(e _ (by omega)).trans h1, (e _ (by omega)).trans h2, pcR_gr h3 hg (e _ (by omega)) (e _ (by omega)), pcR_gr h4 hg (e _ (by omega)) (e _ (by omega)), pcR_gr h5 hg (e _ (by omega)) (e _ (by omega))⟩
def TI (E : rdE) (l : List tC) (c : cS) (cl : Nat) (g : Nat → Int) (Z : lwQ) : Prop := SP E c Z.1 ∧ Z.1.nc ≤ Z.1.i ∧ (c.flt = -1 ∧ Z.1.bad = -1) ∧ (cl = l.length ∧ Z.2.1 = l.length ∧ l.length ≤ 12) ∧ ∀ i x, l[i]? = some x → tcK E x ∧ tcC E c g i x ∧ tcR E Z.1 Z.2.2 i x
def TQ (E : rdE) (T : lwQ → lwQ) : Prop := (∀ c s cl g cm, SP E c s → s.nc ≤ s.i → cl < 12 → ((cCl E cl c g).1 = true → ∃ x : tC, c.i + 1 ≤ (cCl E cl c g).2.1.i ∧ GR E c s (cCl E cl c g).2.1 (T (s, cl, cm)).1 ∧ (T (s, cl, cm)).2.1 = cl + 1 ∧ tcK E x ∧ tcC E (cCl E cl c g).2.1 (cCl E cl c g).2.2 cl x ∧ tcR E (T (s, cl, cm)).1 (T (s, cl, cm)).2.2 cl x) ∧ ((cCl E cl c g).1 = false → (T (s, cl, cm)).1.flt = 1 ∧ (T (s, cl, cm)).1.bad = (cCl E cl c g).2.1.flt) ∧ ∀ j, j < 8 * cl → (cCl E cl c g).2.2 j = g j ∧ (T (s, cl, cm)).2.2 j = cm j) ∧ ∀ s cl cm, 12 ≤ cl → (T (s, cl, cm)).1 = fl E s
def TE (E : rdE) (R : cR) (Z : lwQ) : Prop := (R.1 = true → (Z.1.flt = 0 ∧ rK E Z.1 = 0) ∧ ∃ l, TI E l R.2.1 R.2.2.1 R.2.2.2 Z) ∧ (R.1 = false → ¬ (Z.1.flt = 0 ∧ rK E Z.1 = 0) ∧ (if Z.1.flt = 0 ∧ rK E Z.1 ≠ 0 then ((tkS E.tn E.tb Z.1.i : Nat) : Int) else Z.1.bad) = R.2.1.flt)
theorem TE_fl {E : rdE} {T : lwQ → lwQ} {R : cR} {Z : lwQ} {f f2 : Nat} (h : R.1 = false) (h1 : Z.1.flt = 1) (h2 : Z.1.bad = R.2.1.flt) : TE E (rLp E f R) (lwR E T f2 Z) := by
  rw [rLp_e (fun z => by rw [h] at z; exact absurd z.1 (by decide)), lwR_e (fun z => by omega)]
  refine ⟨(fun z => by rw [h] at z; cases z), fun _ => ⟨fun z => by omega, ?_⟩⟩
  rw [if_neg (fun z => by omega)]
  exact h2
theorem TI_cl {E : rdE} {T : lwQ → lwQ} (hT : TQ E T) {l : List tC} {c c1 : cS} {cl : Nat} {g : Nat → Int} {s s1 : rdS} {cm : Nat → Int} (h : TI E l c cl g (s, cl, cm)) (hg : GR E c s c1 s1) (hcl : cl < 12) (hr : (cCl E cl c1 g).1 = true) : c1.i + 1 ≤ (cCl E cl c1 g).2.1.i ∧ ∃ l2, TI E l2 (cCl E cl c1 g).2.1 (cl + 1) (cCl E cl c1 g).2.2 (T (s1, cl, cm)) := by
  obtain ⟨h1, h2, ⟨h3, h4⟩, ⟨h5, h6, h7⟩, h8⟩ := h
  obtain ⟨a1, a2, a3⟩ := hT.1 c1 s1 cl g cm hg.1 hg.2.2.2.2.2.1 hcl
  obtain ⟨x, b1, b2, b3, b4, b5, b6⟩ := a1 hr
  have hg2 := GR_tr hg b2
  refine ⟨b1, l ++ [x], hg2.1, hg2.2.2.2.2.2.1, ⟨hg2.2.2.2.2.1.1.trans h3, hg2.2.2.2.2.1.2.trans h4⟩, ⟨by rw [List.length_append, ← h5]; rfl, by rw [b3, List.length_append, ← h5]; rfl, by rw [List.length_append, ← h5]; show cl + 1 ≤ 12; omega⟩, fun i y hy => ?_⟩
  by_cases hi : i < l.length
  · rw [List.getElem?_append_left hi] at hy
    obtain ⟨c1', c2, c3⟩ := h8 i y hy
    exact ⟨c1', tcC_gr c2 hg2 (fun j hj => (a3 j (by omega)).1), tcR_gr c3 hg2 (fun j hj => (a3 j (by omega)).2)⟩
  · have hi2 : i = l.length := by
      have := (List.getElem?_eq_some_iff.mp hy).1
      rw [List.length_append] at this
      have : i < l.length + 1 := this
      omega
    rw [hi2, List.getElem?_append_right (Nat.le_refl _), Nat.sub_self] at hy
    have e : x = y := Option.some.inj hy
    rw [← e, hi2, ← h5]
    exact ⟨b4, b5, b6⟩
theorem sim_loop {E : rdE} {T : lwQ → lwQ} (hT : TQ E T) : ∀ (f f2 : Nat) (r : cR) (Z : lwQ) (l : List tC), E.tn - r.2.1.i < f → E.tn - r.2.1.i < f2 → r.1 = true → TI E l r.2.1 r.2.2.1 r.2.2.2 Z → TE E (rLp E f r) (lwR E T f2 Z) := by
  intro f
  induction f with
  | zero => intro f2 r Z l h; omega
  | succ f ih =>
    intro f2 r Z l hf hf2 hr h
    obtain ⟨b, c, cl, g⟩ := r
    obtain ⟨s, nl, cm⟩ := Z
    have hb : b = true := hr
    subst hb
    obtain ⟨h1, h2, ⟨h3, h4⟩, ⟨h5, h6, h7⟩, h8⟩ := id h
    have h1' : SP E c s := h1
    have h2' : s.nc ≤ s.i := h2
    have e5 : cl = l.length := h5
    have e6 : nl = l.length := h6
    have hn : nl = cl := by omega
    subst hn
    have hfc : E.tn - c.i < f + 1 := hf
    have hfc2 : E.tn - c.i < f2 := hf2
    obtain ⟨hkE, hkW⟩ := rK_c (E := E) (c := c) (s := s) h1'.1
    have hfl : s.flt = 0 := h1'.2.2.1
    by_cases hk : cK E c = 0
    · rw [rLp_e (fun z => z.2 hk), lwR_e (fun z => by have : rK E s = 3 := z.2.1; omega)]
      exact ⟨fun _ => ⟨⟨hfl, by rw [show rK E (s, nl, cm).1 = cK E c from hkE]; exact hk⟩, l, h⟩, (fun z => by cases z)⟩
    · have e1 : rLp E (f + 1) (true, c, nl, g) = rLp E f (cRs E (true, c, nl, g)) := by rw [rLp]; exact if_pos ⟨rfl, hk⟩
      rw [e1]
      unfold cRs
      by_cases hs : csg E 59 c
      · rw [if_pos (show csg E 59 (true, c, nl, g).2.1 from hs)]
        obtain ⟨f3, rfl⟩ : ∃ f3, f2 = f3 + 1 := ⟨f2 - 1, by omega⟩
        have e2 : lwR E T (f3 + 1) (s, nl, cm) = lwR E T f3 (T (nxS E s, nl, cm)) := by rw [lwR]; exact if_pos ⟨hfl, by show rK E s = 3; rw [hkE]; exact hs.1, by show rW E s = 59; rw [hkW]; exact hs.2⟩
        rw [e2]
        have hg := GR_nx h1' h2'
        have hi1 := tkE_1 (tn := E.tn) (tb := E.tb) (i := c.i) h1'.2.2.2.1 hk
        by_cases hc : nl < 12
        · rw [if_pos (show (true, c, nl, g).2.2.1 < 12 from hc)]
          show TE E (rLp E f (cOf nl (cCl E nl (cnx E c) g))) _
          by_cases hq : (cCl E nl (cnx E c) g).1 = true
          · obtain ⟨hi2, l2, hl2⟩ := TI_cl hT h hg hc hq
            have hi3 : tkE E.tn E.tb c.i + 1 ≤ (cCl E nl (cnx E c) g).2.1.i := hi2
            have hi4 : (cCl E nl (cnx E c) g).2.1.i ≤ E.tn := hl2.1.2.2.2.1
            refine ih f3 _ _ l2 ?_ ?_ hq ?_
            · show E.tn - (cCl E nl (cnx E c) g).2.1.i < f; omega
            · show E.tn - (cCl E nl (cnx E c) g).2.1.i < f3; omega
            · unfold cOf; rw [if_pos hq]; exact hl2
          · have hq2 : (cCl E nl (cnx E c) g).1 = false := eq_false_of_ne_true hq
            obtain ⟨a1, a2, a3⟩ := hT.1 (cnx E c) (nxS E s) nl g cm hg.1 hg.2.2.2.2.2.1 hc
            exact TE_fl (R := cOf nl (cCl E nl (cnx E c) g)) hq2 (a2 hq2).1 (a2 hq2).2
        · rw [if_neg (show ¬ (true, c, nl, g).2.2.1 < 12 from hc)]
          have ef := hT.2 (nxS E s) nl cm (by omega)
          refine TE_fl rfl (by rw [ef]; rfl) ?_
          rw [ef]
          show ((tkS E.tn E.tb (nxS E s).i : Nat) : Int) = ((tkS E.tn E.tb (cnx E c).i : Nat) : Int)
          rw [hg.1.1]
      · rw [if_neg (show ¬ csg E 59 (true, c, nl, g).2.1 from hs), rLp_e (fun z => by cases z.1), lwR_e (fun z => hs (by unfold csg; rw [← hkE, ← hkW]; exact z.2))]
        refine ⟨(fun z => by cases z), fun _ => ⟨fun z => hk (by rw [← hkE]; exact z.2), ?_⟩⟩
        rw [if_pos (show s.flt = 0 ∧ rK E s ≠ 0 from ⟨hfl, by rw [hkE]; exact hk⟩)]
        show ((tkS E.tn E.tb s.i : Nat) : Int) = ((tkS E.tn E.tb c.i : Nat) : Int)
        rw [h1'.1]
/-- a whole text, read by both -/
theorem sim_text {E : rdE} {T : lwQ → lwQ} (hT : TQ E T) (htn : E.tn ≤ 400) (o a g o2 a2 cm : Nat → Int) : TE E (cRead E o a g) (lwR E T 401 (T (rB0 o2 a2, 0, cm))) := by
  have hp : SP E (cS0 o a) (rB0 o2 a2) := ⟨rfl, rfl, rfl, Nat.zero_le _, Nat.le_refl _, by show 0 ≤ 50; omega, Or.inl rfl, htn⟩
  have h0 : TI E [] (cS0 o a) 0 g (rB0 o2 a2, 0, cm) := ⟨hp, Nat.le_refl _, ⟨rfl, rfl⟩, ⟨rfl, rfl, by show 0 ≤ 12; omega⟩, fun i x hx => by cases hx⟩
  have hg : GR E (cS0 o a) (rB0 o2 a2) (cS0 o a) (rB0 o2 a2) := GR_rf hp (Nat.le_refl _)
  unfold cRead
  by_cases hq : (cCl E 0 (cS0 o a) g).1 = true
  · obtain ⟨hi2, l2, hl2⟩ := TI_cl hT h0 hg (by omega) hq
    have hi3 : 0 + 1 ≤ (cCl E 0 (cS0 o a) g).2.1.i := hi2
    have hi4 : (cCl E 0 (cS0 o a) g).2.1.i ≤ E.tn := hl2.1.2.2.2.1
    refine sim_loop hT 400 401 _ _ l2 ?_ ?_ hq ?_
    · show E.tn - (cCl E 0 (cS0 o a) g).2.1.i < 400; omega
    · show E.tn - (cCl E 0 (cS0 o a) g).2.1.i < 401; omega
    · unfold cOf; rw [if_pos hq]; exact hl2
  · have hq2 : (cCl E 0 (cS0 o a) g).1 = false := eq_false_of_ne_true hq
    obtain ⟨a1, a2', a3⟩ := hT.1 (cS0 o a) (rB0 o2 a2) 0 g cm hp (Nat.le_refl _) (by omega)
    exact TE_fl (R := cOf 0 (cCl E 0 (cS0 o a) g)) hq2 (a2' hq2).1 (a2' hq2).2
theorem TQ_lw {E : rdE} {lw : Nat → Int} (hE : hEw E) (hod : E.od = 0) (hlw : ∀ k, k < 4 → lw k = hw 1 k) : TQ E (lwT E lw) := ⟨fun c s cl g cm hp hn hcl => sim_lw hE hod hlw hp hn hcl g cm, fun s cl cm h => if_pos (Or.inr h)⟩
theorem TQ_od {E : rdE} {lo : Nat → Int} (hE : hEw E) (hod : E.od = 1) (hlo : ∀ k, k < 5 → lo k = hw 0 (lof k)) : TQ E (odT E lo) := ⟨fun c s cl g cm hp hn hcl => sim_od hE hod hlo hp hn hcl g cm, fun s cl cm h => if_pos (Or.inr h)⟩

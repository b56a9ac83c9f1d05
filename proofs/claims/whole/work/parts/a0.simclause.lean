/-! the two readers: pieces of a clause -/
abbrev fnO : Type := Option (sp_E → Option Int)
abbrev tC : Type := Int × Nat × fnO × fnO × fnO
def pcC (E : rdE) (c : cS) (g : Nat → Int) (p : Nat) (F : fnO) : Prop := (F = none → g p = 0 ∧ g (p + 1) = 0) ∧ ∀ f, F = some f → ∃ x y m : Nat, g p = ((x : Nat) : Int) ∧ g (p + 1) = ((y : Nat) : Int) ∧ y ≤ c.sz ∧ m ≤ 50 ∧ cM E.od c.ab c.o c.a x y m f
def pcR (E : rdE) (s : rdS) (g : Nat → Int) (p : Nat) (F : fnO) : Prop := (F = none → ∃ x : Nat, g p = ((x : Nat) : Int) ∧ g (p + 1) = ((x : Nat) : Int) ∧ x ≤ s.nc) ∧ ∀ f, F = some f → ∃ x y : Nat, g p = ((x : Nat) : Int) ∧ g (p + 1) = ((y : Nat) : Int) ∧ y ≤ s.nc ∧ rM E.od s.o s.a x y f
/-- both readers went on from c, s to c2, s2 -/
def GR (E : rdE) (c : cS) (s : rdS) (c2 : cS) (s2 : rdS) : Prop := SP E c2 s2 ∧ (c.sz ≤ c2.sz ∧ ∀ j, j < c.sz → c2.o j = c.o j ∧ c2.a j = c.a j) ∧ (s.nc ≤ s2.nc ∧ ∀ j, j < s.nc → s2.o j = s.o j ∧ s2.a j = s.a j) ∧ (c2.ab = c.ab ∨ c.ab = 0) ∧ (c2.flt = c.flt ∧ s2.bad = s.bad) ∧ s2.nc ≤ s2.i ∧ c.i ≤ c2.i
theorem GR_rf {E : rdE} {c : cS} {s : rdS} (hp : SP E c s) (hn : s.nc ≤ s.i) : GR E c s c s := ⟨hp, ⟨Nat.le_refl _, fun _ _ => ⟨rfl, rfl⟩⟩, ⟨Nat.le_refl _, fun _ _ => ⟨rfl, rfl⟩⟩, Or.inl rfl, ⟨rfl, rfl⟩, hn, Nat.le_refl _⟩
theorem GR_tr {E : rdE} {c c2 c3 : cS} {s s2 s3 : rdS} (h1 : GR E c s c2 s2) (h2 : GR E c2 s2 c3 s3) : GR E c s c3 s3 := by
  obtain ⟨a1, ⟨a2, a3⟩, ⟨a4, a5⟩, a6, ⟨a7, a8⟩, a9, a10⟩ := h1
  obtain ⟨b1, ⟨b2, b3⟩, ⟨b4, b5⟩, b6, ⟨b7, b8⟩, b9, b10⟩ := h2
  refine ⟨b1, ⟨by omega, fun j hj => ?_⟩, ⟨by omega, fun j hj => ?_⟩, by omega, ⟨b7.trans a7, b8.trans a8⟩, b9, by omega⟩
  · exact ⟨(b3 j (by omega)).1.trans (a3 j hj).1, (b3 j (by omega)).2.trans (a3 j hj).2⟩
  · exact ⟨(b5 j (by omega)).1.trans (a5 j hj).1, (b5 j (by omega)).2.trans (a5 j hj).2⟩
theorem GR_nx {E : rdE} {c : cS} {s : rdS} (hp : SP E c s) (hn : s.nc ≤ s.i) : GR E c s (cnx E c) (nxS E s) := by
  obtain ⟨h1, h2, h3, h4, h5, h6, h7, h8⟩ := id hp
  have e := (p2_nx (E := E) (s := s) (by omega))
  have e2 : (nxS E s).i = tkE E.tn E.tb c.i := by show tkE E.tn E.tb s.i = _; rw [h1]
  have e1 := e.1
  have e3 := e.2.1
  rw [e2] at e1 e3
  exact ⟨⟨e2.symm, h2, h3, e3, by show c.sz ≤ tkE E.tn E.tb c.i; omega, h6, h7, h8⟩, ⟨Nat.le_refl _, fun _ _ => ⟨rfl, rfl⟩⟩, ⟨Nat.le_refl _, fun _ _ => ⟨rfl, rfl⟩⟩, Or.inl rfl, ⟨rfl, rfl⟩, by show s.nc ≤ (nxS E s).i; rw [e2]; omega, by show c.i ≤ tkE E.tn E.tb c.i; omega⟩
theorem pcC_gr {E : rdE} {c c2 : cS} {s s2 : rdS} {g g2 : Nat → Int} {p : Nat} {F : fnO} (h : pcC E c g p F) (hg : GR E c s c2 s2) (e1 : g2 p = g p) (e2 : g2 (p + 1) = g (p + 1)) : pcC E c2 g2 p F := by
  refine ⟨fun z => by rw [e1, e2]; exact h.1 z, fun f z => ?_⟩
  obtain ⟨x, y, m, h1, h2, h3, h4, h5⟩ := h.2 f z
  exact ⟨x, y, m, e1.trans h1, e2.trans h2, by have := hg.2.1.1; omega, h4, cM_fr (cM_ab h5 hg.2.2.2.1) (fun j j1 j2 => hg.2.1.2 j (by omega))⟩
theorem pcR_gr {E : rdE} {c c2 : cS} {s s2 : rdS} {g g2 : Nat → Int} {p : Nat} {F : fnO} (h : pcR E s g p F) (hg : GR E c s c2 s2) (e1 : g2 p = g p) (e2 : g2 (p + 1) = g (p + 1)) : pcR E s2 g2 p F := by
  have hn := hg.2.2.1.1
  refine ⟨fun z => ?_, fun f z => ?_⟩
  · obtain ⟨x, h1, h2, h3⟩ := h.1 z
    exact ⟨x, e1.trans h1, e2.trans h2, by omega⟩
  · obtain ⟨x, y, h1, h2, h3, h4⟩ := h.2 f z
    exact ⟨x, y, e1.trans h1, e2.trans h2, by omega, rM_fr h4 (fun j j1 j2 => hg.2.2.1.2 j (by omega))⟩
/-- a piece was read -/
def sgm (E : rdE) (T : Bool) (c : cS) (s : rdS) (c2 : cS) (s2 : rdS) (g2 : Nat → Int) (p : Nat) (F : fnO) : Prop := GR E c s c2 s2 ∧ pcC E c2 g2 p F ∧ (F = none → s2.nc = s.nc) ∧ ∀ f, F = some f → rM E.od s2.o s2.a s.nc s2.nc f ∧ (if T = true then fT E.od f else fB E.od f)
theorem pcR_of {E : rdE} {T : Bool} {c c2 : cS} {s s2 : rdS} {g g2 : Nat → Int} {p q : Nat} {F : fnO} (h : sgm E T c s c2 s2 g2 p F) (e1 : g q = ((s.nc : Nat) : Int)) (e2 : g (q + 1) = ((s2.nc : Nat) : Int)) : pcR E s2 g q F := by
  obtain ⟨h1, h2, h3, h4⟩ := h
  refine ⟨fun z => ⟨s.nc, e1, by rw [e2, h3 z], h1.2.2.1.1⟩, fun f z => ⟨s.nc, s2.nc, e1, e2, Nat.le_refl _, (h4 f z).1⟩⟩
theorem x_sgm {E : rdE} {T : Bool} {c c1 r : cS} {s s1 s2 : rdS} {g : Nat → Int} {p : Nat} (h0 : GR E c s c1 s1) (e0 : c1.sz = c.sz ∧ s1.nc = s.nc) (h : XOK E T c1 s1 r s2) (hn : s2.nc ≤ s2.i) : ∃ f, sgm E T c s r s2 (fup (fup g p ((c1.sz : Nat) : Int)) (p + 1) ((r.sz : Nat) : Int)) p (some f) := by
  obtain ⟨f, n, ⟨a1, a2, a3, a4⟩, ⟨a5, a6, a7⟩, ⟨a8, a9, a10⟩, ⟨b1, b2, b3⟩, ⟨b4, b5, b6, b7⟩, b8⟩ := h
  obtain ⟨p1, p2, p3, p4, p5, p6, p7, p8⟩ := id h0.1
  have hs : SP E r s2 := ⟨a1.symm, a2.symm, a3, b5, by omega, b6, by omega, p8⟩
  have hg : GR E c1 s1 r s2 := ⟨hs, ⟨a8.1, a10⟩, ⟨a5, a6⟩, by omega, ⟨b8, a4⟩, hn, by omega⟩
  refine ⟨f, GR_tr h0 hg, ⟨(fun z => by cases z), fun f2 z => ?_⟩, (fun z => by cases z), fun f2 z => ?_⟩
  · cases z
    exact ⟨c1.sz, r.sz, n, by rw [fup_n (by omega), fup_s], fup_s _ _ _, Nat.le_refl _, by omega, a8⟩
  · cases z
    exact ⟨by rw [← e0.2]; exact a7, a9⟩
theorem sp_i {E : rdE} {c : cS} {s : rdS} (hp : SP E c s) : s.i ≤ E.tn := by have := hp.1; have := hp.2.2.2.1; omega
theorem step_sum {E : rdE} (hE : hEw E) {c c1 : cS} {s s1 : rdS} (h0 : GR E c s c1 s1) (e0 : c1.sz = c.sz ∧ s1.nc = s.nc) (g : Nat → Int) (p : Nat) : ((sAs E p c1 g).1 = true → ∃ f, sgm E false c s (sAs E p c1 g).2.1 (rExp E 0 s1) (sAs E p c1 g).2.2 p (some f)) ∧ ((sAs E p c1 g).1 = false → (rExp E 0 s1).flt = 1 ∧ (rExp E 0 s1).bad = (sAs E p c1 g).2.1.flt) ∧ ∀ j, j ≠ p → j ≠ p + 1 → (sAs E p c1 g).2.2 j = g j := by
  obtain ⟨h1, h2⟩ := exp_sum hE h0.1
  refine ⟨fun z => x_sgm h0 e0 (h1 z) (qb_exp (sp_i h0.1) h0.2.2.2.2.2.1), h2, fun j j1 j2 => ?_⟩
  show fup (fup g p _) (p + 1) _ j = g j
  rw [fup_n j2, fup_n j1]
theorem hw_9 : hw 9 0 = 294 := by decide +kernel
theorem hw_8 : hw 8 0 = 21279923 := by decide +kernel
theorem hw_7 : hw 7 0 = 52 := by decide +kernel
theorem hw_6 : hw 6 0 = 486 := by decide +kernel
theorem step_if {E : rdE} (hE : hEw E) {c : cS} {s : rdS} (hp : SP E c s) (hn : s.nc ≤ s.i) {g : Nat → Int} {p : Nat} (hg : g p = 0 ∧ g (p + 1) = 0) : ((cIf E p (true, c, g)).1 = true → ∃ F, sgm E true c s (cIf E p (true, c, g)).2.1 (lw2 E s) (cIf E p (true, c, g)).2.2 p F) ∧ ((cIf E p (true, c, g)).1 = false → (lw2 E s).flt = 1 ∧ (lw2 E s).bad = (cIf E p (true, c, g)).2.1.flt) ∧ ∀ j, j ≠ p → j ≠ p + 1 → (cIf E p (true, c, g)).2.2 j = g j := by
  obtain ⟨hkE, hkW⟩ := rK_c (E := E) (c := c) (s := s) hp.1
  unfold cIf lw2
  by_cases hw : cwd E 9 c
  · rw [if_pos (⟨rfl, hw⟩ : true = true ∧ cwd E 9 c), if_pos (show s.flt = 0 ∧ rK E s = 1 ∧ rW E s = 294 from ⟨hp.2.2.1, by rw [hkE, hkW, ← hw_9]; exact hw⟩)]
    have h0 := GR_nx hp hn
    have hg1 := tkE_1 (tn := E.tn) (tb := E.tb) (i := c.i) hp.2.2.2.1 (show tkK E.tn E.tb c.i ≠ 0 by have : tkK E.tn E.tb c.i = 1 := hw.1; omega)
    obtain ⟨h1, h2⟩ := exp_test hE h0.1 (show 1 ≤ tkE E.tn E.tb c.i by omega)
    refine ⟨fun z => ?_, h2, fun j j1 j2 => ?_⟩
    · obtain ⟨f, hf⟩ := x_sgm (g := g) (p := p) h0 ⟨rfl, rfl⟩ (h1 z) (qb_exp (sp_i h0.1) h0.2.2.2.2.2.1)
      exact ⟨some f, hf⟩
    · show fup (fup g p _) (p + 1) _ j = g j
      rw [fup_n j2, fup_n j1]
  · rw [if_neg (fun z => hw z.2), if_neg (fun z => hw (by unfold cwd; rw [hw_9, ← hkE, ← hkW]; exact z.2))]
    exact ⟨fun _ => ⟨none, GR_rf hp hn, ⟨fun _ => hg, (fun f z => by cases z)⟩, fun _ => rfl, (fun f z => by cases z)⟩, (fun z => by cases z), fun _ _ _ => rfl⟩
theorem step_c1 {E : rdE} (hE : hEw E) {c : cS} {s : rdS} (hp : SP E c s) (hn : s.nc ≤ s.i) {g : Nat → Int} {cl : Nat} {k : Int} (hg : g (8 * cl + 2) = 0 ∧ g (8 * cl + 2 + 1) = 0) : ((cC1 E cl k c g).1 = true → ∃ F, sgm E false c s (cC1 E cl k c g).2.1 (if k = (if E.od = 1 then 4 else 3) then s else rExp E 0 s) (cC1 E cl k c g).2.2 (8 * cl + 2) F ∧ (F = none ↔ k = (if E.od = 1 then 4 else 3))) ∧ ((cC1 E cl k c g).1 = false → (if k = (if E.od = 1 then 4 else 3) then s else rExp E 0 s).flt = 1 ∧ (if k = (if E.od = 1 then 4 else 3) then s else rExp E 0 s).bad = (cC1 E cl k c g).2.1.flt) ∧ ∀ j, j ≠ 8 * cl + 2 → j ≠ 8 * cl + 2 + 1 → (cC1 E cl k c g).2.2 j = g j := by
  unfold cC1
  by_cases hk : k = (if E.od = 1 then 4 else 3)
  · rw [if_pos hk, if_pos hk]
    exact ⟨fun _ => ⟨none, ⟨GR_rf hp hn, ⟨fun _ => hg, (fun f z => by cases z)⟩, fun _ => rfl, (fun f z => by cases z)⟩, fun _ => hk, fun _ => rfl⟩, (fun z => by cases z), fun _ _ _ => rfl⟩
  · rw [if_neg hk, if_neg hk]
    obtain ⟨h1, h2, h3⟩ := step_sum hE (GR_rf hp hn) ⟨rfl, rfl⟩ g (8 * cl + 2)
    refine ⟨fun z => ?_, h2, h3⟩
    obtain ⟨f, hf⟩ := h1 z
    exact ⟨some f, hf, (fun z => by cases z), fun z => absurd z hk⟩
def tcC (E : rdE) (c : cS) (g : Nat → Int) (i : Nat) (x : tC) : Prop := g (8 * i) = x.1 ∧ g (8 * i + 1) = ((x.2.1 : Nat) : Int) ∧ pcC E c g (8 * i + 2) x.2.2.1 ∧ pcC E c g (8 * i + 4) x.2.2.2.1 ∧ pcC E c g (8 * i + 6) x.2.2.2.2
def tcR (E : rdE) (s : rdS) (g : Nat → Int) (i : Nat) (x : tC) : Prop := (E.od = 0 → g (8 * i) = x.1 ∧ pcR E s g (8 * i + 3) x.2.2.1 ∧ pcR E s g (8 * i + 5) x.2.2.2.2) ∧ (E.od = 1 → g (8 * i) = rkd x.1 ∧ g (8 * i + 7) = ((x.2.1 : Nat) : Int) ∧ pcR E s g (8 * i + 1) x.2.2.1 ∧ pcR E s g (8 * i + 3) x.2.2.2.1 ∧ pcR E s g (8 * i + 5) x.2.2.2.2)
def okF (od : Int) (T : Bool) (F : fnO) : Prop := ∀ f, F = some f → if T = true then fT od f else fB od f
def tcK (E : rdE) (x : tC) : Prop := (okF E.od false x.2.2.1 ∧ okF E.od false x.2.2.2.1 ∧ okF E.od true x.2.2.2.2) ∧ (E.od = 0 → (0 ≤ x.1 ∧ x.1 ≤ 3) ∧ (x.2.2.1 = none ↔ x.1 = 3)) ∧ (E.od = 1 → (0 ≤ x.1 ∧ x.1 ≤ 4) ∧ (1 ≤ x.2.1 ∧ x.2.1 ≤ 20) ∧ (x.2.2.1 = none ↔ x.1 = 4) ∧ (x.2.2.2.1 = none ↔ ¬ (x.1 = 1 ∨ x.1 = 3)))
theorem sgm_ok {E : rdE} {T : Bool} {c c2 : cS} {s s2 : rdS} {g2 : Nat → Int} {p : Nat} {F : fnO} (h : sgm E T c s c2 s2 g2 p F) : okF E.od T F := fun f z => (h.2.2.2 f z).2
theorem zr_lo {g : Nat → Int} {p : Nat} : ∀ n j, j < p → zr g p n j = g j := by
  intro n
  induction n with
  | zero => intro j _; rfl
  | succ n ih => intro j hj; rw [zr, fup_n (by omega)]; exact ih j hj
theorem zr_in {g : Nat → Int} {p : Nat} : ∀ n j, p ≤ j → j < p + n → zr g p n j = 0 := by
  intro n
  induction n with
  | zero => intro j h1 h2; omega
  | succ n ih =>
    intro j h1 h2
    rw [zr]
    by_cases e : j = p + n
    · rw [e, fup_s]
    · rw [fup_n e]; exact ih j h1 (by omega)
theorem bgn_v {p : Nat} {k : Int} {g : Nat → Int} : bgn p k g p = k ∧ bgn p k g (p + 1) = 1 ∧ (∀ j, p + 2 ≤ j → j < p + 8 → bgn p k g j = 0) ∧ ∀ j, j < p → bgn p k g j = g j := by
  unfold bgn
  refine ⟨if_pos rfl, by rw [if_neg (by omega), if_pos rfl], fun j h1 h2 => by rw [if_neg (by omega), if_neg (by omega), if_pos ⟨h1, h2⟩], fun j h => by rw [if_neg (by omega), if_neg (by omega), if_neg (by omega)]⟩
theorem kAt_cg {f g : Nat → Int} {k0 : Nat} {w : Int} : ∀ n, (∀ k, k < n → f k = g k) → kAt f k0 w n = kAt g k0 w n := by
  intro n
  induction n with
  | zero => intro _; rfl
  | succ n ih => intro h; rw [kAt, kAt, h n (by omega), ih (fun k hk => h k (by omega))]
theorem kAt_k {f : Nat → Int} {k0 : Nat} {w : Int} : ∀ n, kAt f k0 w n ≠ -1 → k0 = 1 := by
  intro n
  induction n with
  | zero => intro h; exact absurd rfl h
  | succ n ih =>
    intro h
    rw [kAt] at h
    by_cases z : k0 = 1 ∧ w = f n
    · exact z.1
    · rw [if_neg z] at h; exact ih h
theorem cKd_i {E : rdE} {c : cS} (h : cKd E c ≠ -1) (hi : c.i ≤ E.tn) : c.i + 1 ≤ (cnx E c).i := by
  have hk : cK E c = 1 := by
    unfold cKd at h
    by_cases z : E.od = 1
    · rw [if_pos z] at h; exact kAt_k 5 h
    · rw [if_neg z] at h; exact kAt_k 4 h
  exact tkE_1 (tn := E.tn) (tb := E.tb) hi (show tkK E.tn E.tb c.i ≠ 0 by have : tkK E.tn E.tb c.i = 1 := hk; omega)
theorem lw2_fl {E : rdE} {s : rdS} (h : s.flt = 1) : lw2 E s = s := by unfold lw2; rw [if_neg (fun z => by omega)]
theorem cIf_fl {E : rdE} {p : Nat} {q : cQ} (h : q.1 = false) : cIf E p q = q := by unfold cIf; rw [if_neg (fun z => by rw [h] at z; exact absurd z.1 (by decide))]
/-- a clause of a law -/
theorem sim_lw {E : rdE} {lw : Nat → Int} (hE : hEw E) (hod : E.od = 0) (hlw : ∀ k, k < 4 → lw k = hw 1 k) {c : cS} {s : rdS} (hp : SP E c s) (hn : s.nc ≤ s.i) {cl : Nat} (hcl : cl < 12) (g cm : Nat → Int) : ((cCl E cl c g).1 = true → ∃ x : tC, c.i + 1 ≤ (cCl E cl c g).2.1.i ∧ GR E c s (cCl E cl c g).2.1 (lwT E lw (s, cl, cm)).1 ∧ (lwT E lw (s, cl, cm)).2.1 = cl + 1 ∧ tcK E x ∧ tcC E (cCl E cl c g).2.1 (cCl E cl c g).2.2 cl x ∧ tcR E (lwT E lw (s, cl, cm)).1 (lwT E lw (s, cl, cm)).2.2 cl x) ∧ ((cCl E cl c g).1 = false → (lwT E lw (s, cl, cm)).1.flt = 1 ∧ (lwT E lw (s, cl, cm)).1.bad = (cCl E cl c g).2.1.flt) ∧ ∀ j, j < 8 * cl → (cCl E cl c g).2.2 j = g j ∧ (lwT E lw (s, cl, cm)).2.2 j = cm j := by
  obtain ⟨hkE, hkW⟩ := rK_c (E := E) (c := c) (s := s) hp.1
  have hkd : kAt lw (rK E s) (rW E s) 4 = cKd E c := by unfold cKd; rw [if_neg (by omega), hkE, hkW]; exact kAt_cg 4 hlw
  have hkb : -1 ≤ cKd E c ∧ cKd E c < 4 := by rw [← hkd]; exact kAt_b _ _ _ 4
  unfold lwT
  dsimp only
  rw [hkd]
  unfold cCl
  by_cases hk : cKd E c = -1
  · rw [if_pos hk, if_pos (Or.inl hk), if_pos (Or.inl hk), if_pos (Or.inl hk)]
    exact ⟨(fun z => by cases z), fun _ => ⟨rfl, by show ((tkS E.tn E.tb s.i : Nat) : Int) = ((tkS E.tn E.tb c.i : Nat) : Int); rw [hp.1]⟩, fun j _ => ⟨rfl, rfl⟩⟩
  · have hk2 : ¬ (cKd E c = -1 ∨ 12 ≤ cl) := by omega
    rw [if_neg hk, if_neg hk2, if_neg hk2, if_neg hk2]
    obtain ⟨k, hkk⟩ : ∃ k, k = cKd E c := ⟨_, rfl⟩
    rw [← hkk] at hk hkb ⊢
    have hgn := GR_nx hp hn
    have hci := cKd_i (E := E) (c := c) (by rw [← hkk]; exact hk) hp.2.2.2.1
    obtain ⟨b1, b2, b3, b4⟩ := bgn_v (p := 8 * cl) (k := k) (g := g)
    obtain ⟨h1, h2, h3⟩ := step_c1 hE hgn.1 hgn.2.2.2.2.2.1 (g := bgn (8 * cl) k g) (cl := cl) (k := k) ⟨b3 _ (by omega) (by omega), b3 _ (by omega) (by omega)⟩
    have ez : (if k = (if E.od = 1 then 4 else 3) then nxS E s else rExp E 0 (nxS E s)) = lw1 E k s := by rw [if_neg (show ¬ E.od = 1 by omega)]; rfl
    rw [ez] at h1 h2
    obtain ⟨q, hq⟩ : ∃ q, q = cC1 E cl k (cnx E c) (bgn (8 * cl) k g) := ⟨_, rfl⟩
    rw [← hq] at h1 h2 h3 ⊢
    have e2 : cC2 E cl k q = q := by unfold cC2; rw [if_neg (fun z => by omega), if_neg (fun z => by omega)]
    have e3 : cC3 E cl q = q := by unfold cC3; rw [if_neg (fun z => by omega)]
    rw [e2, e3]
    have frm : ∀ j, j < 8 * cl → lwC E k s cl cm j = cm j := by
      intro j hj
      unfold lwC
      rw [fup_n (by omega), fup_n (by omega), fup_n (by omega), fup_n (by omega), fup_n (by omega)]
      exact zr_lo 8 j hj
    by_cases hq1 : q.1 = true
    · obtain ⟨F1, hs1, hn1⟩ := h1 hq1
      have eq : q = (true, q.2.1, q.2.2) := by rw [← hq1]
      obtain ⟨i1, i2, i3⟩ := step_if hE hs1.1.1 hs1.1.2.2.2.2.2.1 (g := q.2.2) (p := 8 * cl + 6) ⟨by rw [h3 _ (by omega) (by omega)]; exact b3 _ (by omega) (by omega), by rw [h3 _ (by omega) (by omega)]; exact b3 _ (by omega) (by omega)⟩
      rw [← eq] at i1 i2 i3
      refine ⟨fun z => ?_, i2, fun j hj => ⟨by rw [i3 j (by omega) (by omega), h3 j (by omega) (by omega)]; exact b4 j hj, frm j hj⟩⟩
      obtain ⟨F2, hs2⟩ := i1 z
      have l0 : lwC E k s cl cm (8 * cl) = k := by
        unfold lwC
        rw [fup_n (by omega), fup_n (by omega), fup_n (by omega), fup_n (by omega), fup_s]
      have l3 : lwC E k s cl cm (8 * cl + 3) = (((nxS E s).nc : Nat) : Int) := by
        unfold lwC
        rw [fup_n (by omega), fup_n (by omega), fup_n (by omega), fup_s]
      have l4 : lwC E k s cl cm (8 * cl + 3 + 1) = (((lw1 E k s).nc : Nat) : Int) := by
        unfold lwC
        rw [fup_n (by omega), fup_n (by omega), fup_s]
      have l5 : lwC E k s cl cm (8 * cl + 5) = (((lw1 E k s).nc : Nat) : Int) := by
        unfold lwC
        rw [fup_n (by omega), fup_s]
      have l6 : lwC E k s cl cm (8 * cl + 5 + 1) = (((lw2 E (lw1 E k s)).nc : Nat) : Int) := by
        unfold lwC
        rw [fup_s]
      refine ⟨(k, 1, F1, none, F2), Nat.le_trans hci (GR_tr hs1.1 hs2.1).2.2.2.2.2.2, GR_tr hgn (GR_tr hs1.1 hs2.1), rfl, ⟨⟨sgm_ok hs1, (fun f z => by cases z), sgm_ok hs2⟩, fun _ => ⟨by show 0 ≤ k ∧ k ≤ 3; omega, by show F1 = none ↔ k = 3; rw [hn1, if_neg (by omega)]⟩, fun z => by omega⟩, ⟨?_, ?_, ?_, ⟨fun _ => ⟨?_, ?_⟩, (fun f z => by cases z)⟩, hs2.2.1⟩, fun _ => ⟨l0, pcR_gr (pcR_of (q := 8 * cl + 3) (g := lwC E k s cl cm) hs1 l3 l4) hs2.1 rfl rfl, pcR_of hs2 l5 l6⟩, fun z => by omega⟩
      · rw [i3 _ (by omega) (by omega), h3 _ (by omega) (by omega)]; exact b1
      · rw [i3 _ (by omega) (by omega), h3 _ (by omega) (by omega)]; exact b2
      · exact pcC_gr hs1.2.1 hs2.1 (i3 _ (by omega) (by omega)) (i3 _ (by omega) (by omega))
      · rw [i3 _ (by omega) (by omega), h3 _ (by omega) (by omega)]; exact b3 _ (by omega) (by omega)
      · rw [i3 _ (by omega) (by omega), h3 _ (by omega) (by omega)]; exact b3 _ (by omega) (by omega)
    · have hq2 : q.1 = false := eq_false_of_ne_true hq1
      rw [cIf_fl hq2, lw2_fl (h2 hq2).1]
      exact ⟨fun z => absurd z hq1, fun _ => h2 hq2, fun j hj => ⟨by rw [h3 j (by omega) (by omega)]; exact b4 j hj, frm j hj⟩⟩

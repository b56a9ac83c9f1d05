/-! the two readers: a clause of orders -/
theorem hw0_ne : ∀ i, i < 5 → ∀ j, j < 5 → i ≠ j → hw 0 i ≠ hw 0 j := by decide +kernel
def lof (k : Nat) : Nat := if k = 0 then 1 else if k = 1 then 3 else if k = 2 then 0 else if k = 3 then 2 else 4
theorem lof_ne : ∀ i, i < 5 → lof i < 5 ∧ ∀ j, j < 5 → i ≠ j → lof i ≠ lof j := by decide
theorem rkd_at {lo : Nat → Int} (hlo : ∀ k, k < 5 → lo k = hw 0 (lof k)) {k0 : Nat} {w : Int} : kAt lo k0 w 5 = if kAt (hw 0) k0 w 5 = -1 then -1 else rkd (kAt (hw 0) k0 w 5) := by
  by_cases h : ∃ i, i < 5 ∧ k0 = 1 ∧ w = hw 0 i
  · obtain ⟨i, hi, rfl, rfl⟩ := h
    have e1 := kAt_yes (f := hw 0) (k := i) rfl 5 hi (fun j hj hne => hw0_ne j hj i hi hne)
    rw [e1, if_neg (by omega)]
    have key : ∀ k, k < 5 → lof k = i → kAt lo 1 (hw 0 i) 5 = ((k : Nat) : Int) := by
      intro k hk hl
      refine kAt_yes (f := lo) (k := k) (by rw [hlo k hk, hl]) 5 hk (fun j hj hne => ?_)
      rw [hlo j hj, hlo k hk]
      exact hw0_ne _ (lof_ne j hj).1 _ (lof_ne k hk).1 ((lof_ne j hj).2 k hk hne)
    rcases (show i = 0 ∨ i = 1 ∨ i = 2 ∨ i = 3 ∨ i = 4 by omega) with rfl | rfl | rfl | rfl | rfl
    · rw [key 2 (by omega) rfl]; rfl
    · rw [key 0 (by omega) rfl]; rfl
    · rw [key 3 (by omega) rfl]; rfl
    · rw [key 1 (by omega) rfl]; rfl
    · rw [key 4 (by omega) rfl]; rfl
  · have e1 : kAt (hw 0) k0 w 5 = -1 := kAt_no 5 (fun k hk z => h ⟨k, hk, z⟩)
    have e2 : kAt lo k0 w 5 = -1 := kAt_no 5 (fun k hk z => h ⟨lof k, (lof_ne k hk).1, by rw [← hlo k hk]; exact z⟩)
    rw [e1, e2, if_pos rfl]
theorem rSm_0 {E : rdE} {s : rdS} (h : s.flt = 0) : rSm E s = rExp E 0 s := by unfold rSm; rw [if_neg (by omega)]
theorem rSm_1 {E : rdE} {s : rdS} (h : s.flt = 1) : rSm E s = s := by unfold rSm; rw [if_pos (by omega)]
theorem step_w {E : rdE} (hE : hEw E) {c : cS} {s : rdS} (hp : SP E c s) (hn : s.nc ≤ s.i) {g : Nat → Int} {cl t : Nat} {w : Int} (hw_ : hw t 0 = w) {k : Int} (hkw : (if k = 0 then (486 : Int) else 52) = w) : (od2 E k s).nc = s.nc ∧ ((wsm E cl t c g).1 = true → ∃ f, sgm E false c s (wsm E cl t c g).2.1 (rSm E (od2 E k s)) (wsm E cl t c g).2.2 (8 * cl + 4) (some f)) ∧ ((wsm E cl t c g).1 = false → (rSm E (od2 E k s)).flt = 1 ∧ (rSm E (od2 E k s)).bad = (wsm E cl t c g).2.1.flt) ∧ ∀ j, j ≠ 8 * cl + 4 → j ≠ 8 * cl + 4 + 1 → (wsm E cl t c g).2.2 j = g j := by
  obtain ⟨hkE, hkW⟩ := rK_c (E := E) (c := c) (s := s) hp.1
  have e : od2 E k s = if (rK E s = 1 ∧ rW E s = w) then nxS E s else fl E s := by
    unfold od2 mst
    rw [if_neg (by have := hp.2.2.1; omega), hkw]
    by_cases z : rK E s = 1 ∧ rW E s = w
    · rw [bI_t z, if_pos rfl, if_pos z]
    · rw [bI_f z, if_neg (by decide), if_neg z]
  unfold wsm
  by_cases hc : cwd E t c
  · have z : rK E s = 1 ∧ rW E s = w := by rw [hkE, hkW, ← hw_]; exact hc
    rw [e, if_pos z, if_pos hc, rSm_0 (show (nxS E s).flt = 0 from hp.2.2.1)]
    obtain ⟨h1, h2, h3⟩ := step_sum hE (GR_nx hp hn) ⟨rfl, rfl⟩ g (8 * cl + 4)
    exact ⟨rfl, h1, h2, h3⟩
  · have z : ¬ (rK E s = 1 ∧ rW E s = w) := by rw [hkE, hkW, ← hw_]; exact hc
    rw [e, if_neg z, if_neg hc, rSm_1 (show (fl E s).flt = 1 from rfl)]
    exact ⟨rfl, (fun y => by cases y), fun _ => ⟨rfl, by show ((tkS E.tn E.tb s.i : Nat) : Int) = ((tkS E.tn E.tb c.i : Nat) : Int); rw [hp.1]⟩, fun _ _ _ => rfl⟩
theorem step_c2 {E : rdE} (hE : hEw E) (hod : E.od = 1) {c : cS} {s : rdS} (hp : SP E c s) (hn : s.nc ≤ s.i) {g : Nat → Int} {cl : Nat} {k : Int} (hk : 0 ≤ k ∧ k ≤ 4) (hg : g (8 * cl + 4) = 0 ∧ g (8 * cl + 4 + 1) = 0) : (rkd k < 2 → (od2 E (rkd k) s).nc = s.nc) ∧ ((cC2 E cl k (true, c, g)).1 = true → ∃ F, sgm E false c s (cC2 E cl k (true, c, g)).2.1 (od3 E (rkd k) s) (cC2 E cl k (true, c, g)).2.2 (8 * cl + 4) F ∧ (F = none ↔ ¬ (k = 1 ∨ k = 3))) ∧ ((cC2 E cl k (true, c, g)).1 = false → (od3 E (rkd k) s).flt = 1 ∧ (od3 E (rkd k) s).bad = (cC2 E cl k (true, c, g)).2.1.flt) ∧ ∀ j, j ≠ 8 * cl + 4 → j ≠ 8 * cl + 4 + 1 → (cC2 E cl k (true, c, g)).2.2 j = g j := by
  unfold cC2 od3
  by_cases h1 : k = 1
  · subst h1
    have er : rkd 1 = 0 := rfl
    rw [if_pos ⟨rfl, hod, rfl⟩, er, if_neg (by decide)]
    obtain ⟨a0, a1, a2, a3⟩ := step_w hE hp hn (g := g) (cl := cl) (t := 6) hw_6 (k := 0) rfl
    exact ⟨fun _ => a0, fun z => by obtain ⟨f, hf⟩ := a1 z; exact ⟨some f, hf, (fun y => by cases y), fun y => absurd (Or.inl rfl) y⟩, a2, a3⟩
  · rw [if_neg (fun z => h1 z.2.2)]
    by_cases h3 : k = 3
    · subst h3
      have er : rkd 3 = 1 := rfl
      rw [if_pos ⟨rfl, hod, rfl⟩, er, if_neg (by decide)]
      obtain ⟨a0, a1, a2, a3⟩ := step_w hE hp hn (g := g) (cl := cl) (t := 7) hw_7 (k := 1) rfl
      exact ⟨fun _ => a0, fun z => by obtain ⟨f, hf⟩ := a1 z; exact ⟨some f, hf, (fun y => by cases y), fun y => absurd (Or.inr rfl) y⟩, a2, a3⟩
    · have er : 2 ≤ rkd k := by
        rcases (show k = 0 ∨ k = 2 ∨ k = 4 by omega) with rfl | rfl | rfl <;> decide
      rw [if_neg (fun z => h3 z.2.2), if_pos er]
      exact ⟨fun z => by omega, fun _ => ⟨none, ⟨GR_rf hp hn, ⟨fun _ => hg, (fun f z => by cases z)⟩, fun _ => rfl, (fun f z => by cases z)⟩, fun _ => by omega, fun _ => rfl⟩, (fun z => by cases z), fun _ _ _ => rfl⟩
theorem step_c3 {E : rdE} (hod : E.od = 1) {c : cS} {s : rdS} (hp : SP E c s) (hn : s.nc ≤ s.i) {g : Nat → Int} {cl : Nat} (hg : g (8 * cl + 1) = 1) : ((cC3 E cl (true, c, g)).1 = true → GR E c s (cC3 E cl (true, c, g)).2.1 (od4 E s) ∧ (od4 E s).nc = s.nc ∧ ∃ m : Nat, (1 ≤ m ∧ m ≤ 20) ∧ (cC3 E cl (true, c, g)).2.2 (8 * cl + 1) = ((m : Nat) : Int) ∧ od4v E s = ((m : Nat) : Int)) ∧ ((cC3 E cl (true, c, g)).1 = false → (od4 E s).flt = 1 ∧ (od4 E s).bad = (cC3 E cl (true, c, g)).2.1.flt) ∧ ∀ j, j ≠ 8 * cl + 1 → (cC3 E cl (true, c, g)).2.2 j = g j := by
  obtain ⟨hkE, hkW⟩ := rK_c (E := E) (c := c) (s := s) hp.1
  unfold cC3 od4 od4v
  by_cases hc : cwd E 8 c
  · have z : s.flt = 0 ∧ rK E s = 1 ∧ rW E s = 21279923 := ⟨hp.2.2.1, by rw [hkE, hkW, ← hw_8]; exact hc⟩
    rw [if_pos ⟨rfl, hod, hc⟩, if_pos z, if_pos z]
    have h1 := GR_nx hp hn
    obtain ⟨hk2, hw2⟩ := rK_c (E := E) (c := cnx E c) (s := nxS E s) h1.1.1
    show ((ofn E (8 * cl + 1) c g).1 = true → _) ∧ ((ofn E (8 * cl + 1) c g).1 = false → _) ∧ _
    unfold rNb ofn
    rw [hk2, hw2]
    by_cases y : cK E (cnx E c) = 2 ∧ 1 ≤ cW E (cnx E c) ∧ cW E (cnx E c) ≤ 20
    · rw [if_pos y, if_pos y]
      refine ⟨fun _ => ⟨GR_tr h1 (GR_nx h1.1 h1.2.2.2.2.2.1), rfl, (cW E (cnx E c)).toNat, by omega, ?_, ?_⟩, (fun x => by cases x), fun j hj => fup_n hj⟩
      · show fup g (8 * cl + 1) (cW E (cnx E c)) (8 * cl + 1) = _
        rw [fup_s]; omega
      · rw [wrp_id (by unfold rg; omega)]; omega
    · rw [if_neg y, if_neg y]
      refine ⟨(fun x => by cases x), fun _ => ⟨rfl, ?_⟩, fun _ _ => rfl⟩
      show ((tkS E.tn E.tb (nxS E s).i : Nat) : Int) = ((tkS E.tn E.tb (cnx E c).i : Nat) : Int)
      rw [h1.1.1]
  · have z : ¬ (s.flt = 0 ∧ rK E s = 1 ∧ rW E s = 21279923) := fun z => hc (by unfold cwd; rw [hw_8, ← hkE, ← hkW]; exact z.2)
    rw [if_neg (fun y => hc y.2.2), if_neg z, if_neg z]
    exact ⟨fun _ => ⟨GR_rf hp hn, rfl, 1, by omega, hg, rfl⟩, (fun x => by cases x), fun _ _ => rfl⟩
theorem rkd_4 {k : Int} (hk : 0 ≤ k ∧ k ≤ 4) : rkd k = 4 ↔ k = 4 := by unfold rkd; split; omega; split; omega; split; omega; split <;> omega
theorem cC2_fl {E : rdE} {cl : Nat} {k : Int} {q : cQ} (h : q.1 = false) : cC2 E cl k q = q := by unfold cC2; rw [if_neg (fun z => by rw [h] at z; exact absurd z.1 (by decide)), if_neg (fun z => by rw [h] at z; exact absurd z.1 (by decide))]
theorem cC3_fl {E : rdE} {cl : Nat} {q : cQ} (h : q.1 = false) : cC3 E cl q = q := by unfold cC3; rw [if_neg (fun z => by rw [h] at z; exact absurd z.1 (by decide))]
theorem od3_fl {E : rdE} {k : Int} {s : rdS} (h : s.flt = 1) : od3 E k s = s := by
  unfold od3 od2
  rw [if_pos (show s.flt ≠ 0 by omega), rSm_1 h]
  split <;> rfl
theorem od4_fl {E : rdE} {s : rdS} (h : s.flt = 1) : od4 E s = s := by unfold od4; rw [if_neg (fun z => by omega)]
theorem oCs_lo {E : rdE} {k : Int} {nl : Nat} {s : rdS} {c : Nat → Int} {j : Nat} (h : j < 8 * nl) : oCs E k nl s c j = c j := by
  unfold oCs oC6
  rw [fup_n (by omega), fup_n (by omega)]
  have e4 : ∀ z (c : Nat → Int), oC4 E nl z c j = c j := by
    intro z c; unfold oC4; split
    · rw [fup_n (by omega), fup_n (by omega)]
    · rw [fup_n (by omega)]
  have e3 : ∀ z (c : Nat → Int), oC3 E k nl z c j = c j := by
    intro z c; unfold oC3; split
    · rfl
    · rw [fup_n (by omega), fup_n (by omega)]
  have e1 : ∀ z (c : Nat → Int), oC1 E k nl z c j = c j := by
    intro z c; unfold oC1; split
    · rfl
    · rw [fup_n (by omega), fup_n (by omega)]
  rw [e4, e3, e1, fup_n (by omega)]
  exact zr_lo 8 j h
/-- the marks of an order in the reference -/
theorem oCs_v {E : rdE} {k : Int} {nl : Nat} {s : rdS} {c : Nat → Int} : oCs E k nl s c (8 * nl) = k ∧ oCs E k nl s c (8 * nl + 7) = od4v E (od3 E k (od1 E k (nxS E s))) ∧ (oCs E k nl s c (8 * nl + 5) = (((oS4 E k s).nc : Nat) : Int) ∧ oCs E k nl s c (8 * nl + 5 + 1) = (((lw2 E (oS4 E k s)).nc : Nat) : Int)) ∧ (oCs E k nl s c (8 * nl + 1) = (if k = 4 then 0 else (((nxS E s).nc : Nat) : Int)) ∧ oCs E k nl s c (8 * nl + 1 + 1) = (if k = 4 then 0 else (((rSm E (nxS E s)).nc : Nat) : Int))) ∧ (oCs E k nl s c (8 * nl + 3) = (if 2 ≤ k then 0 else (((od2 E k (od1 E k (nxS E s))).nc : Nat) : Int)) ∧ oCs E k nl s c (8 * nl + 3 + 1) = (if 2 ≤ k then 0 else (((rSm E (od2 E k (od1 E k (nxS E s)))).nc : Nat) : Int))) := by
  have e4 : ∀ z (c : Nat → Int) j, j ≠ 8 * nl + 7 → oC4 E nl z c j = c j := by
    intro z c j h; unfold oC4; split
    · rw [fup_n h, fup_n h]
    · rw [fup_n h]
  have e3 : ∀ z (c : Nat → Int) j, j ≠ 8 * nl + 3 → j ≠ 8 * nl + 3 + 1 → oC3 E k nl z c j = c j := by
    intro z c j h1 h2; unfold oC3; split
    · rfl
    · rw [fup_n h2, fup_n h1]
  have e1 : ∀ z (c : Nat → Int) j, j ≠ 8 * nl + 1 → j ≠ 8 * nl + 1 + 1 → oC1 E k nl z c j = c j := by
    intro z c j h1 h2; unfold oC1; split
    · rfl
    · rw [fup_n h2, fup_n h1]
  have f6 : ∀ (c : Nat → Int) z j, j ≠ 8 * nl + 5 → j ≠ 8 * nl + 6 → oC6 E nl z c j = c j := by
    intro c z j h1 h2; unfold oC6; rw [fup_n h2, fup_n h1]
  unfold oCs
  refine ⟨?_, ?_, ⟨?_, ?_⟩, ⟨?_, ?_⟩, ?_, ?_⟩
  · rw [f6 _ _ _ (by omega) (by omega), e4 _ _ _ (by omega), e3 _ _ _ (by omega) (by omega), e1 _ _ _ (by omega) (by omega), fup_s]
  · rw [f6 _ _ _ (by omega) (by omega)]
    unfold oC4 od4v
    by_cases z : (od3 E k (od1 E k (nxS E s))).flt = 0 ∧ rK E (od3 E k (od1 E k (nxS E s))) = 1 ∧ rW E (od3 E k (od1 E k (nxS E s))) = 21279923
    · rw [if_pos z, if_pos z, fup_s]
    · rw [if_neg z, if_neg z, fup_s]
  · unfold oC6; rw [fup_n (by omega), fup_s]
  · unfold oC6; rw [fup_s]
  · rw [f6 _ _ _ (by omega) (by omega), e4 _ _ _ (by omega), e3 _ _ _ (by omega) (by omega)]
    unfold oC1
    by_cases z : k = 4
    · rw [if_pos z, if_pos z, fup_n (by omega)]; exact zr_in 8 _ (by omega) (by omega)
    · rw [if_neg z, if_neg z, fup_n (by omega), fup_s]
  · rw [f6 _ _ _ (by omega) (by omega), e4 _ _ _ (by omega), e3 _ _ _ (by omega) (by omega)]
    unfold oC1
    by_cases z : k = 4
    · rw [if_pos z, if_pos z, fup_n (by omega)]; exact zr_in 8 _ (by omega) (by omega)
    · rw [if_neg z, if_neg z, fup_s]
  · rw [f6 _ _ _ (by omega) (by omega), e4 _ _ _ (by omega)]
    unfold oC3
    by_cases z : 2 ≤ k
    · rw [if_pos z, if_pos z, e1 _ _ _ (by omega) (by omega), fup_n (by omega)]; exact zr_in 8 _ (by omega) (by omega)
    · rw [if_neg z, if_neg z, fup_n (by omega), fup_s]
  · rw [f6 _ _ _ (by omega) (by omega), e4 _ _ _ (by omega)]
    unfold oC3
    by_cases z : 2 ≤ k
    · rw [if_pos z, if_pos z, e1 _ _ _ (by omega) (by omega), fup_n (by omega)]; exact zr_in 8 _ (by omega) (by omega)
    · rw [if_neg z, if_neg z, fup_s]
theorem pcR_0 {E : rdE} {s : rdS} {g : Nat → Int} {p : Nat} (h1 : g p = 0) (h2 : g (p + 1) = 0) : pcR E s g p none := ⟨fun _ => ⟨0, h1, h2, by omega⟩, (fun f z => by cases z)⟩
/-- a clause of orders -/
theorem sim_od {E : rdE} {lo : Nat → Int} (hE : hEw E) (hod : E.od = 1) (hlo : ∀ k, k < 5 → lo k = hw 0 (lof k)) {c : cS} {s : rdS} (hp : SP E c s) (hn : s.nc ≤ s.i) {cl : Nat} (hcl : cl < 12) (g cm : Nat → Int) : ((cCl E cl c g).1 = true → ∃ x : tC, c.i + 1 ≤ (cCl E cl c g).2.1.i ∧ GR E c s (cCl E cl c g).2.1 (odT E lo (s, cl, cm)).1 ∧ (odT E lo (s, cl, cm)).2.1 = cl + 1 ∧ tcK E x ∧ tcC E (cCl E cl c g).2.1 (cCl E cl c g).2.2 cl x ∧ tcR E (odT E lo (s, cl, cm)).1 (odT E lo (s, cl, cm)).2.2 cl x) ∧ ((cCl E cl c g).1 = false → (odT E lo (s, cl, cm)).1.flt = 1 ∧ (odT E lo (s, cl, cm)).1.bad = (cCl E cl c g).2.1.flt) ∧ ∀ j, j < 8 * cl → (cCl E cl c g).2.2 j = g j ∧ (odT E lo (s, cl, cm)).2.2 j = cm j := by
  obtain ⟨hkE, hkW⟩ := rK_c (E := E) (c := c) (s := s) hp.1
  have hkd : kAt lo (rK E s) (rW E s) 5 = if cKd E c = -1 then -1 else rkd (cKd E c) := by unfold cKd; rw [if_pos hod, hkE, hkW]; exact rkd_at hlo
  have hkb : -1 ≤ cKd E c ∧ cKd E c < 5 := by unfold cKd; rw [if_pos hod]; exact kAt_b _ _ _ 5
  unfold odT
  dsimp only
  rw [hkd]
  unfold cCl
  by_cases hk : cKd E c = -1
  · rw [if_pos hk, if_pos hk, if_pos (Or.inl rfl), if_pos (Or.inl rfl), if_pos (Or.inl rfl)]
    exact ⟨(fun z => by cases z), fun _ => ⟨rfl, by show ((tkS E.tn E.tb s.i : Nat) : Int) = ((tkS E.tn E.tb c.i : Nat) : Int); rw [hp.1]⟩, fun j _ => ⟨rfl, rfl⟩⟩
  · rw [if_neg hk, if_neg hk]
    obtain ⟨k, hkk⟩ : ∃ k, k = cKd E c := ⟨_, rfl⟩
    rw [← hkk] at hk hkb ⊢
    have hk04 : 0 ≤ k ∧ k ≤ 4 := by omega
    have hr0 : 0 ≤ rkd k := by rcases (show k = 0 ∨ k = 1 ∨ k = 2 ∨ k = 3 ∨ k = 4 by omega) with rfl | rfl | rfl | rfl | rfl <;> decide
    have hk2 : ¬ (rkd k = -1 ∨ 12 ≤ cl) := by omega
    rw [if_neg hk2, if_neg hk2, if_neg hk2]
    have hgn := GR_nx hp hn
    have hci := cKd_i (E := E) (c := c) (by rw [← hkk]; exact hk) hp.2.2.2.1
    obtain ⟨b1, b2, b3, b4⟩ := bgn_v (p := 8 * cl) (k := k) (g := g)
    obtain ⟨h1, h2, h3⟩ := step_c1 hE hgn.1 hgn.2.2.2.2.2.1 (g := bgn (8 * cl) k g) (cl := cl) (k := k) ⟨b3 _ (by omega) (by omega), b3 _ (by omega) (by omega)⟩
    have esm : rSm E (nxS E s) = rExp E 0 (nxS E s) := rSm_0 hp.2.2.1
    have ez : (if k = (if E.od = 1 then 4 else 3) then nxS E s else rExp E 0 (nxS E s)) = od1 E (rkd k) (nxS E s) := by
      rw [if_pos hod]
      unfold od1
      by_cases y : k = 4
      · rw [if_pos y, if_pos ((rkd_4 hk04).mpr y)]
      · rw [if_neg y, if_neg (fun z => y ((rkd_4 hk04).mp z)), esm]
    rw [ez] at h1 h2
    obtain ⟨v0, v7, ⟨v5, v6⟩, ⟨v1, v2⟩, ⟨v3, v4⟩⟩ := oCs_v (E := E) (k := rkd k) (nl := cl) (s := s) (c := cm)
    have frm : ∀ j, j < 8 * cl → oCs E (rkd k) cl s cm j = cm j := fun j hj => oCs_lo hj
    have eS4 : oS4 E (rkd k) s = od4 E (od3 E (rkd k) (od1 E (rkd k) (nxS E s))) := rfl
    obtain ⟨mk, hmk⟩ : ∃ mk, mk = oCs E (rkd k) cl s cm := ⟨_, rfl⟩
    rw [← hmk] at v0 v1 v2 v3 v4 v5 v6 v7 frm ⊢
    rw [eS4] at v5 v6 ⊢
    obtain ⟨z1, hz1⟩ : ∃ z1, z1 = od1 E (rkd k) (nxS E s) := ⟨_, rfl⟩
    rw [← hz1] at h1 h2 v3 v4 v5 v6 v7 ⊢
    obtain ⟨q, hq⟩ : ∃ q, q = cC1 E cl k (cnx E c) (bgn (8 * cl) k g) := ⟨_, rfl⟩
    rw [← hq] at h1 h2 h3 ⊢
    by_cases hq1 : q.1 = true
    case neg =>
      have hq2 : q.1 = false := eq_false_of_ne_true hq1
      have hf := (h2 hq2).1
      rw [cC2_fl hq2, cC3_fl hq2, cIf_fl hq2, od3_fl hf, od4_fl hf, lw2_fl hf]
      exact ⟨fun z => absurd z hq1, fun _ => h2 hq2, fun j hj => ⟨by rw [h3 j (by omega) (by omega)]; exact b4 j hj, frm j hj⟩⟩
    case pos =>
    obtain ⟨F1, hs1, hn1⟩ := h1 hq1
    rw [if_pos hod] at hn1
    have eq : q = (true, q.2.1, q.2.2) := by rw [← hq1]
    obtain ⟨m0, m1, m2, m3⟩ := step_c2 hE hod hs1.1.1 hs1.1.2.2.2.2.2.1 (g := q.2.2) (cl := cl) (k := k) hk04 ⟨by rw [h3 _ (by omega) (by omega)]; exact b3 _ (by omega) (by omega), by rw [h3 _ (by omega) (by omega)]; exact b3 _ (by omega) (by omega)⟩
    rw [← eq] at m1 m2 m3
    obtain ⟨z2, hz2⟩ : ∃ z2, z2 = od3 E (rkd k) z1 := ⟨_, rfl⟩
    rw [← hz2] at m1 m2 v5 v6 v7 ⊢
    obtain ⟨q2, hq2⟩ : ∃ q2, q2 = cC2 E cl k q := ⟨_, rfl⟩
    rw [← hq2] at m1 m2 m3 ⊢
    by_cases hb2 : q2.1 = true
    case neg =>
      have hb3 : q2.1 = false := eq_false_of_ne_true hb2
      have hf := (m2 hb3).1
      rw [cC3_fl hb3, cIf_fl hb3, od4_fl hf, lw2_fl hf]
      exact ⟨fun z => absurd z hb2, fun _ => m2 hb3, fun j hj => ⟨by rw [m3 j (by omega) (by omega), h3 j (by omega) (by omega)]; exact b4 j hj, frm j hj⟩⟩
    case pos =>
    obtain ⟨F2, hs2, hn2⟩ := m1 hb2
    have eq2 : q2 = (true, q2.2.1, q2.2.2) := by rw [← hb2]
    obtain ⟨o1, o2, o3⟩ := step_c3 (E := E) hod hs2.1.1 hs2.1.2.2.2.2.2.1 (g := q2.2.2) (cl := cl) (by rw [m3 _ (by omega) (by omega), h3 _ (by omega) (by omega)]; exact b2)
    rw [← eq2] at o1 o2 o3
    obtain ⟨z3, hz3⟩ : ∃ z3, z3 = od4 E z2 := ⟨_, rfl⟩
    rw [← hz3] at o1 o2 v5 v6 ⊢
    obtain ⟨q3, hq3⟩ : ∃ q3, q3 = cC3 E cl q2 := ⟨_, rfl⟩
    rw [← hq3] at o1 o2 o3 ⊢
    by_cases hb3 : q3.1 = true
    case neg =>
      have hb4 : q3.1 = false := eq_false_of_ne_true hb3
      have hf := (o2 hb4).1
      rw [cIf_fl hb4, lw2_fl hf]
      exact ⟨fun z => absurd z hb3, fun _ => o2 hb4, fun j hj => ⟨by rw [o3 j (by omega), m3 j (by omega) (by omega), h3 j (by omega) (by omega)]; exact b4 j hj, frm j hj⟩⟩
    case pos =>
    obtain ⟨hg3, hnc3, m, hm, hmC, hmR⟩ := o1 hb3
    have eq3 : q3 = (true, q3.2.1, q3.2.2) := by rw [← hb3]
    obtain ⟨i1, i2, i3⟩ := step_if hE hg3.1 hg3.2.2.2.2.2.1 (g := q3.2.2) (p := 8 * cl + 6) ⟨by rw [o3 _ (by omega), m3 _ (by omega) (by omega), h3 _ (by omega) (by omega)]; exact b3 _ (by omega) (by omega), by rw [o3 _ (by omega), m3 _ (by omega) (by omega), h3 _ (by omega) (by omega)]; exact b3 _ (by omega) (by omega)⟩
    rw [← eq3] at i1 i2 i3
    refine ⟨fun z => ?_, i2, fun j hj => ⟨by rw [i3 j (by omega) (by omega), o3 j (by omega), m3 j (by omega) (by omega), h3 j (by omega) (by omega)]; exact b4 j hj, frm j hj⟩⟩
    obtain ⟨F3, hs3⟩ := i1 z
    have g23 := GR_tr hg3 hs3.1
    have g13 := GR_tr hs2.1 g23
    have pR1 : pcR E z1 mk (8 * cl + 1) F1 := by
      by_cases y : k = 4
      · rw [hn1.mpr y]
        rw [if_pos ((rkd_4 hk04).mpr y)] at v1 v2
        exact pcR_0 v1 v2
      · have y2 : ¬ rkd k = 4 := fun t => y ((rkd_4 hk04).mp t)
        rw [if_neg y2] at v1 v2
        have ezz : rSm E (nxS E s) = z1 := by rw [hz1]; unfold od1; rw [if_neg y2]
        rw [ezz] at v2
        exact pcR_of hs1 v1 v2
    have pR2 : pcR E z2 mk (8 * cl + 3) F2 := by
      by_cases y : 2 ≤ rkd k
      · have yk : ¬ (k = 1 ∨ k = 3) := by
          intro t
          rcases t with t | t
          · subst t; exact absurd y (by decide)
          · subst t; exact absurd y (by decide)
        rw [hn2.mpr yk]
        rw [if_pos y] at v3 v4
        exact pcR_0 v3 v4
      · rw [if_neg y] at v3 v4
        have ezz : rSm E (od2 E (rkd k) z1) = z2 := by rw [hz2]; unfold od3; rw [if_neg y]
        rw [ezz] at v4
        rw [m0 (by omega)] at v3
        exact pcR_of hs2 v3 v4
    refine ⟨(k, m, F1, F2, F3), Nat.le_trans hci (GR_tr hs1.1 g13).2.2.2.2.2.2, GR_tr hgn (GR_tr hs1.1 g13), rfl, ⟨⟨sgm_ok hs1, sgm_ok hs2, sgm_ok hs3⟩, fun y => by omega, fun _ => ⟨hk04, hm, hn1, hn2⟩⟩, ⟨?_, ?_, ?_, ?_, hs3.2.1⟩, fun y => by omega, fun _ => ⟨v0, v7.trans hmR, pcR_gr pR1 g13 rfl rfl, pcR_gr pR2 g23 rfl rfl, pcR_of hs3 v5 v6⟩⟩
    · rw [i3 _ (by omega) (by omega), o3 _ (by omega), m3 _ (by omega) (by omega), h3 _ (by omega) (by omega)]; exact b1
    · rw [i3 _ (by omega) (by omega)]; exact hmC
    · exact pcC_gr hs1.2.1 g13 (by rw [i3 _ (by omega) (by omega), o3 _ (by omega), m3 _ (by omega) (by omega)]) (by rw [i3 _ (by omega) (by omega), o3 _ (by omega), m3 _ (by omega) (by omega)])
    · exact pcC_gr hs2.2.1 g23 (by rw [i3 _ (by omega) (by omega), o3 _ (by omega)]) (by rw [i3 _ (by omega) (by omega), o3 _ (by omega)])

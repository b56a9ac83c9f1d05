/-! the two readers: a sum or a test as a whole -/
theorem rRun_st {E : rdE} {u : Int} : ∀ (n : Nat) (t : Int) (s : rdS), s.i ≤ E.tn → 0 ≤ t ∧ t ≤ 4 → rm E t s ≤ n → ∀ m, n ≤ m → rRun E u m t s = rRun E u n t s := by
  intro n
  induction n with
  | zero =>
    intro t s hi ht hm m _
    have h : s.flt ≠ 0 ∨ t = 4 := by
      by_cases z : s.flt = 0 ∧ t ≠ 4
      · have := rm_on (E := E) z.1 z.2
        have := rk_b t
        omega
      · omega
    rw [rRun_e h, rRun_e h]
  | succ n ih =>
    intro t s hi ht hm m hnm
    by_cases h : s.flt ≠ 0 ∨ t = 4
    · rw [rRun_e h, rRun_e h]
    · obtain ⟨m', rfl⟩ : ∃ m', m = m' + 1 := ⟨m - 1, by omega⟩
      have h2 := (p2_step (E := E) (u := u) (t := t) hi).2.1
      have hd := rm_dec (E := E) (u := u) (t := t) (s := s) (by omega) (by omega) hi h2 ht
      rw [rRun, if_neg h, rRun, if_neg h]
      exact ih _ _ h2 (rStepV_b E u t s) (by omega) m' (by omega)
theorem rexp_run {E : rdE} {u t t2 : Int} {s s2 : rdS} (hi : s.i ≤ E.tn) (ht : t = if u = 0 then 1 else 0) (h : rch E u t (clr s) t2 s2) (he : s2.flt ≠ 0 ∨ t2 = 4) : rExp E u s = stS 1 s2 := by
  obtain ⟨n, h⟩ := h
  have h1 := h (3 * E.tn + 3)
  rw [rRun_e he] at h1
  have h2 := rRun_st (E := E) (u := u) (3 * E.tn + 3) t (clr s) hi (by rw [ht]; split <;> omega) (rm_b E t (clr s)) (3 * E.tn + 3 + n) (by omega)
  unfold rExp
  rw [← ht, ← h2, h1]
def XOK (E : rdE) (T : Bool) (c : cS) (s : rdS) (r : cS) (s2 : rdS) : Prop := ∃ (f : sp_E → Option Int) (n : Nat), (s2.i = r.i ∧ s2.lv = r.pa ∧ s2.flt = 0 ∧ s2.bad = s.bad) ∧ (s.nc ≤ s2.nc ∧ (∀ j, j < s.nc → s2.o j = s.o j ∧ s2.a j = s.a j) ∧ rM E.od s2.o s2.a s.nc s2.nc f) ∧ (cM E.od r.ab r.o r.a c.sz r.sz n f ∧ (if T = true then fT E.od f else fB E.od f) ∧ (∀ j, j < c.sz → r.o j = c.o j ∧ r.a j = c.a j)) ∧ (c.pa + n = r.pa ∧ 1 ≤ n ∧ (r.ab = c.ab ∨ (c.ab = 0 ∧ r.ab = 1))) ∧ (r.sz + c.i ≤ c.sz + r.i ∧ r.i ≤ E.tn ∧ r.pa ≤ 50 ∧ c.i + 1 ≤ r.i) ∧ r.flt = c.flt
theorem SP_clr {E : rdE} {c : cS} {s : rdS} (hp : SP E c s) : SP E c (clr s) := hp
theorem sno_x {E : rdE} {u t x : Int} {s : rdS} (hi : s.i ≤ E.tn) (ht : t = if u = 0 then 1 else 0) (h : SNO E u t (clr s) x) : (rExp E u s).flt = 1 ∧ (rExp E u s).bad = x := by
  obtain ⟨t', s', h1, h2, h3⟩ := h
  rw [rexp_run hi ht h1 (Or.inl (by omega))]
  exact ⟨h2, h3⟩
theorem exp_sum {E : rdE} (hE : hEw E) {c : cS} {s : rdS} (hp : SP E c s) : ((cSm E 8 c).1 = true → XOK E false c s (cSm E 8 c).2 (rExp E 0 s)) ∧ ((cSm E 8 c).1 = false → (rExp E 0 s).flt = 1 ∧ (rExp E 0 s).bad = (cSm E 8 c).2.flt) := by
  have hi : s.i ≤ E.tn := by have := hp.1; have := hp.2.2.2.1; omega
  obtain ⟨h1, h2⟩ := sim_sum (u := 0) hE 8 (by omega) c (clr s) (SP_clr hp) rfl (by show (-1 : Int) < 5; decide)
  refine ⟨fun z => ?_, fun z => sno_x hi rfl (h2 z)⟩
  obtain ⟨hS, ⟨-, h47⟩, h55⟩ := h1 z
  obtain ⟨R, hR⟩ : ∃ R, R = (cSm E 8 c).2 := ⟨_, rfl⟩
  rw [← hR] at hS h47 h55 ⊢
  obtain ⟨s3, f1, n1, a1, ⟨a2, a3, a4, a5, a6⟩, ⟨a7, a8, a9⟩, b1, b4, b7, q, q5⟩ := hS
  have hop := sg_no (E := E) (c := R) (s := s3) a2.symm h47 h55
  have hin : innL s3.pl = -1 := a7
  have hst := rch_s (E := E) (u := 0) a4
  unfold rSumV rSum at hst
  rw [if_neg (by omega), if_neg (by omega), if_pos ⟨hin, rfl⟩, if_neg (by omega), if_neg (by omega), if_pos ⟨hin, rfl⟩] at hst
  have e := rexp_run hi rfl (rch_tr a1 hst) (Or.inr rfl)
  have e2 : stS 1 s3 = stS 5 s3 := by rw [← stS_stS (show (1 : Int) ≤ 5 by decide) s3]; exact stS_no (by rw [a9]; show (-1 : Int) < 1; decide)
  rw [e, e2]
  exact ⟨f1, n1, ⟨a2, a3, a4, a6⟩, b1, b4, b7, q, q5⟩
theorem exp_test {E : rdE} (hE : hEw E) {c : cS} {s : rdS} (hp : SP E c s) (hc1 : 1 ≤ c.i) : ((cTs E 8 c).1 = true → XOK E true c s (cTs E 8 c).2 (rExp E 1 s)) ∧ ((cTs E 8 c).1 = false → (rExp E 1 s).flt = 1 ∧ (rExp E 1 s).bad = (cTs E 8 c).2.flt) := by
  have hi : s.i ≤ E.tn := by have := hp.1; have := hp.2.2.2.1; omega
  obtain ⟨h1, h2⟩ := sim_test hE 8 (by omega) c (clr s) (SP_clr hp) hc1 rfl (by show (-1 : Int) < 1; decide) (by show (-1 : Int) ≠ 32; decide)
  refine ⟨fun z => ?_, fun z => sno_x hi rfl (h2 z)⟩
  obtain ⟨hS, h12, h13⟩ := h1 z
  obtain ⟨R, hR⟩ : ∃ R, R = (cTs E 8 c).2 := ⟨_, rfl⟩
  rw [← hR] at hS h12 h13 ⊢
  obtain ⟨s3, f1, n1, a1, ⟨a2, a3, a4, a5, a6⟩, ⟨a7, a9⟩, b1, b4, b7, q, q5⟩ := hS
  obtain ⟨hkE, hkW⟩ := rK_c (E := E) (c := R) (s := s3) a2.symm
  have na : ¬ (rK E s3 = 1 ∧ rW E s3 = 1476) := by rw [hkE, hkW, ← hw_12]; exact h12
  have nb : ¬ (rK E s3 = 1 ∧ rW E s3 = 498) := by rw [hkE, hkW, ← hw_13]; exact h13
  have hin : innL s3.pl = -1 := a7
  have hst := rch_t (E := E) (u := 1) a4
  unfold rTestV rTest at hst
  rw [if_neg na, if_neg nb, if_pos hin, if_neg na, if_neg nb, if_pos hin] at hst
  rw [rexp_run hi rfl (rch_tr a1 hst) (Or.inr rfl)]
  exact ⟨f1, n1, ⟨a2, a3, a4, a6⟩, b1, b4, b7, q, q5⟩
/-! the reference's code and pile are no longer than what is read -/
def qb (s : rdS) : Prop := s.nc + s.pl.length ≤ s.i
section QB
variable {E : rdE} {s : rdS}
theorem qb_st {le : Int} (h : qb s) : qb (stS le s) := by
  have := stl_b le s.pl s.nc s.o s.a
  unfold qb at *
  show (stl le s.pl s.nc s.o s.a).2.1 + (stl le s.pl s.nc s.o s.a).1.length ≤ s.i
  omega
theorem qb_nx (hi : s.i ≤ E.tn) (h : qb s) : qb (nxS E s) := by
  have := (p2_nx (E := E) hi).1
  unfold qb at *
  show s.nc + s.pl.length ≤ (nxS E s).i
  omega
theorem qb_open {u : Int} (hi : s.i ≤ E.tn) (h : qb s) (hk : rK E s ≠ 0) : qb (rOpen E u s) := by
  unfold rOpen
  split
  · have := tkE_1 (tn := E.tn) (tb := E.tb) hi hk
    unfold qb at *
    show s.nc + (s.pl.length + 1) ≤ tkE E.tn E.tb s.i
    omega
  · exact h
theorem qb_lf (hi : s.i ≤ E.tn) (h : qb s) : qb (rLf E s) := by
  by_cases z : (rAt E s ≠ -1 ∨ (rK E s = 2 ∧ rW E s ≤ 1000)) ∧ s.lv < 50
  · have hk : rK E s ≠ 0 := by
      rcases z.1 with y | y
      · intro y2
        exact y (rAt_n (by omega))
      · omega
    have := tkE_1 (tn := E.tn) (tb := E.tb) hi hk
    rw [rLf_ok z.1 z.2]
    unfold qb at *
    show s.nc + 1 + s.pl.length ≤ tkE E.tn E.tb s.i
    omega
  · rw [rLf_no (by
      by_cases y : rAt E s ≠ -1 ∨ (rK E s = 2 ∧ rW E s ≤ 1000)
      · exact Or.inr (fun y2 => z ⟨y, y2⟩)
      · exact Or.inl y)]
    exact h
theorem qb_nb {lo h9 : Int} (hi : s.i ≤ E.tn) (h : qb s) : qb (rNb E lo h9 s) := by
  unfold rNb
  split
  · exact qb_nx hi h
  · exact h
theorem qb_part (hi : s.i ≤ E.tn) (h : qb s) : qb (rPart E s) := by
  unfold rPart
  split
  · rename_i hb
    exact qb_open hi h (by omega)
  · split
    · exact qb_nb (p2_lf hi).2.1 (qb_lf hi h)
    · exact qb_lf hi h
theorem qb_plain (hi : s.i ≤ E.tn) (h : qb s) : qb (rPlain E s) := by
  unfold rPlain
  split
  · rename_i hb
    have := tkE_1 (tn := E.tn) (tb := E.tb) hi (by have := hb.1; unfold rK at this; omega)
    unfold qb at *
    show s.nc + (s.pl.length + 1) ≤ tkE E.tn E.tb s.i
    omega
  · split
    · rename_i hb
      exact qb_open hi h (by omega)
    · exact qb_part hi h
theorem qb_psh {a b le : Int} (hi : s.i ≤ E.tn) (h : qb s) (hk : rK E s ≠ 0) : qb (nxS E (psh a b (stS le s))) := by
  have := tkE_1 (tn := E.tn) (tb := E.tb) hi hk
  have h2 := qb_st (le := le) h
  unfold qb at *
  show (stS le s).nc + ((stS le s).pl.length + 1) ≤ tkE E.tn E.tb s.i
  have : (stS le s).i = s.i := rfl
  omega
theorem qb_pop {k le : Int} (hi : s.i ≤ E.tn) (h : qb s) : qb (opn k (popS (stS le (nxS E s)))) := by
  have h2 := qb_st (le := le) (qb_nx hi h)
  unfold qb at *
  show (stS le (nxS E s)).nc + (stS le (nxS E s)).pl.tail.length ≤ (stS le (nxS E s)).i
  rw [List.length_tail]
  omega
theorem rOp_k (h : rOp E s ≠ -1) : rK E s ≠ 0 := by
  intro z
  apply h
  unfold rOp
  rw [if_neg (by omega), if_neg (by omega), if_neg (by omega), if_neg (by omega), if_neg (by omega)]
theorem qb_sum {u : Int} (hi : s.i ≤ E.tn) (h : qb s) : qb (rSum E u s) := by
  unfold rSum
  split
  · rename_i hb
    exact qb_psh hi h (rOp_k hb)
  · split
    · split
      · exact qb_pop hi h
      · exact h
    · split
      · exact h
      · split
        · exact h
        · split
          · rename_i hb
            have hk : rK E s ≠ 0 := by
              intro z
              unfold rCm at hb
              rw [if_neg (by omega), if_neg (by omega)] at hb
              omega
            exact qb_psh (le := 5) hi h hk
          · exact h
theorem qb_jn {a : Int} {le : Int} (hi : s.i ≤ E.tn) (h : qb s) (hk : rK E s = 1) (hw : 32 ≤ rW E s) : qb (nxS E (emt a 0 (psh a (((stS le s).nc : Nat) : Int) (stS le s)))) := by
  have := tkE_2 (tn := E.tn) (tb := E.tb) hi hk hw
  have h2 := qb_st (le := le) h
  unfold qb at *
  show (stS le s).nc + 1 + ((stS le s).pl.length + 1) ≤ tkE E.tn E.tb s.i
  have : (stS le s).i = s.i := rfl
  omega
theorem qb_test (hi : s.i ≤ E.tn) (h : qb s) : qb (rTest E s) := by
  unfold rTest
  split
  · rename_i hb
    exact qb_jn hi h hb.1 (by omega)
  · split
    · rename_i hb
      exact qb_jn hi h hb.1 (by omega)
    · split
      · exact h
      · split
        · exact qb_pop hi h
        · exact h
theorem qb_step {u t : Int} (hi : s.i ≤ E.tn) (h : qb s) : qb (rStep E u t s) := by
  unfold rStep
  split
  · exact qb_plain hi h
  · split
    · exact qb_part hi h
    · split
      · exact qb_sum hi h
      · exact qb_test hi h
end QB
theorem qb_run {E : rdE} {u : Int} : ∀ (n : Nat) (t : Int) (s : rdS), s.i ≤ E.tn → qb s → qb (rRun E u n t s) := by
  intro n
  induction n with
  | zero => intro t s _ h; exact h
  | succ n ih =>
    intro t s hi h
    rw [rRun]
    split
    · exact h
    · exact ih _ _ (p2_step (u := u) (t := t) hi).2.1 (qb_step hi h)
theorem qb_exp {E : rdE} {u : Int} {s : rdS} (hi : s.i ≤ E.tn) (h : s.nc ≤ s.i) : (rExp E u s).nc ≤ (rExp E u s).i := by
  have h1 : qb (rExp E u s) := qb_st (le := 1) (qb_run (E := E) (u := u) (3 * E.tn + 3) (if u = 0 then 1 else 0) (clr s) hi h)
  unfold qb at h1
  omega

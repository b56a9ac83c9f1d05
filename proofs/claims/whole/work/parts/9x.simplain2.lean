/-! the two readers: plain tests, both -/
theorem tok_fin {E : rdE} {c R : cS} {s s5 : rdS} {k n : Nat} {f : sp_E → Option Int} (hp : SP E c s) (htp : tpB s.pl < 3) (hch : rch E 1 0 s 2 s5) (h2 : s5.i = R.i ∧ s5.lv = R.pa ∧ s5.flt = 0 ∧ s5.op = s.op ∧ s5.bad = s.bad) (hin : innL s5.pl = innL s.pl) (hpl : (stS 4 s5).pl = npl k s.pl) (h3 : s.nc ≤ (stS 4 s5).nc ∧ (∀ j, j < s.nc → (stS 4 s5).o j = s.o j ∧ (stS 4 s5).a j = s.a j) ∧ rM E.od (stS 4 s5).o (stS 4 s5).a s.nc (stS 4 s5).nc f) (h4 : cM E.od R.ab R.o R.a c.sz R.sz n f ∧ fT E.od f ∧ (∀ j, j < c.sz → R.o j = c.o j ∧ R.a j = c.a j)) (h5 : c.pa + n = R.pa ∧ 1 ≤ n ∧ (R.ab = c.ab ∨ (c.ab = 0 ∧ R.ab = 1))) (h6 : R.sz + c.i + k ≤ c.sz + R.i ∧ R.i ≤ E.tn ∧ R.pa ≤ 50 ∧ c.i + 1 ≤ R.i) (h7 : R.flt = c.flt) : (cFin (decide (k % 2 = 1)) (true, R)).1 = true ∧ TOK E 3 c s (cFin (decide (k % 2 = 1)) (true, R)).2 := by
  have e3 : stS 3 s5 = stS 3 (stS 4 s5) := (stS_stS (by decide) s5).symm
  obtain ⟨g1, g2, g3, g4⟩ := stl_n (od := E.od) (x := s.nc) htp k (stS 4 s5).nc (stS 4 s5).o (stS 4 s5).a f h3.1 h3.2.2
  have q1 : (stS 3 s5).pl = s.pl := by rw [e3]; show (stl 3 (stS 4 s5).pl _ _ _).1 = _; rw [hpl]; exact g1
  have q2 : (stS 3 s5).nc = (stS 4 s5).nc + k := by rw [e3]; show (stl 3 (stS 4 s5).pl _ _ _).2.1 = _; rw [hpl]; exact g2
  have q3 : (stS 3 s5).o = (stl 3 (npl k s.pl) (stS 4 s5).nc (stS 4 s5).o (stS 4 s5).a).2.2.1 := by rw [e3]; show (stl 3 (stS 4 s5).pl _ _ _).2.2.1 = _; rw [hpl]
  have q4 : (stS 3 s5).a = (stl 3 (npl k s.pl) (stS 4 s5).nc (stS 4 s5).o (stS 4 s5).a).2.2.2 := by rw [e3]; show (stl 3 (stS 4 s5).pl _ _ _).2.2.2 = _; rw [hpl]
  have hr : s.nc ≤ (stS 3 s5).nc ∧ (∀ j, j < s.nc → (stS 3 s5).o j = s.o j ∧ (stS 3 s5).a j = s.a j) ∧ rM E.od (stS 3 s5).o (stS 3 s5).a s.nc (stS 3 s5).nc (ntk k f) := by
    refine ⟨by omega, fun j hj => ?_, by rw [q2, q3, q4]; exact g4⟩
    obtain ⟨y1, y2⟩ := g3 j (by omega)
    obtain ⟨y3, y4⟩ := h3.2.1 j hj
    rw [q3, q4, y1, y2]
    exact ⟨y3, y4⟩
  have hsz := hp.2.2.2.2.1
  have htn := hp.2.2.2.2.2.2.2
  have hcs := h4.1.1
  unfold cFin
  by_cases hk : k % 2 = 1
  · rw [if_pos ⟨rfl, decide_eq_true hk⟩]
    refine ⟨rfl, ?_⟩
    show TOK E 3 c s (cad 2 0 R)
    rw [cad_ok (show R.sz < 400 by omega)]
    rw [ntk_p, if_pos hk] at hr
    refine ⟨s5, nt f, n, hch, h2, ⟨hin, q1⟩, hr, ⟨cM_nt (cM_fr h4.1 (fun j j1 j2 => ⟨fup_n (by omega), fup_n (by omega)⟩)) (fup_s _ _ _), fT_nt h4.2.1, fun j hj => ?_⟩, h5, ⟨by show R.sz + 1 + c.i ≤ c.sz + R.i; omega, h6.2.1, h6.2.2.1, h6.2.2.2⟩, h7⟩
    show fup R.o R.sz 2 j = c.o j ∧ fup R.a R.sz 0 j = c.a j
    rw [fup_n (by omega), fup_n (by omega)]
    exact h4.2.2 j hj
  · rw [if_neg (fun z => by have := of_decide_eq_true z.2; omega)]
    refine ⟨rfl, ?_⟩
    rw [ntk_p, if_neg hk] at hr
    exact ⟨s5, f, n, hch, h2, ⟨hin, q1⟩, hr, h4, h5, ⟨by show R.sz + c.i ≤ c.sz + R.i; omega, h6.2.1, h6.2.2.1, h6.2.2.2⟩, h7⟩
theorem fin_no {t : Bool} {x : cS} : cFin t (false, x) = (false, x) := by unfold cFin; rw [if_neg (fun z => by cases z.1)]
theorem npl_t {k : Nat} {pl : rd_P} (h : tpB pl < 3) : tpB (npl k pl) < 4 := by
  cases k with
  | zero => show tpB pl < 4; omega
  | succ k => show bnd_ 28 < 4; decide
theorem sim_plain {E : rdE} {ov : Int} {nest : Option (cS → Bool × cS)} {sm : cS → Bool × cS} (hsm : OPD E 1 ov 5 sm (fun r => (True ∧ sgO E 4 7 r = -1) ∧ sgO E 5 5 r = -1)) (hn : (nest = none ∧ 8 ≤ ov) ∨ (∃ f, nest = some f ∧ ov < 8 ∧ OPT E (ov + 1) 1 f (fun r => ¬ cwd E 12 r ∧ ¬ cwd E 13 r))) : OPT E ov 3 (cPln E nest sm) (fun _ => True) := by
  intro c s hp hc1 hov htp hin
  have htn := hp.2.2.2.2.2.2.2
  obtain ⟨c2, k, s2, i1, i2, i3, i4, i5, i6, i7, i8⟩ := sim_nots (E := E) (s := s) htn 400 false c 0 s (by omega) hp (by simp)
  rw [Nat.sub_zero] at i6 i8
  have e2i : s2.i = c2.i := i4.1.symm
  have e2 : s2.pl = npl k s.pl ∧ s2.bad = s.bad ∧ s2.flt = 0 ∧ s2.op = s.op ∧ s2.lv = s.lv ∧ s2.nc = s.nc ∧ s2.o = s.o ∧ s2.a = s.a := by rw [i6]; exact ⟨rfl, rfl, hp.2.2.1, rfl, rfl, rfl, rfl, rfl⟩
  have e3 : c2.pa = c.pa ∧ c2.sz = c.sz ∧ c2.o = c.o ∧ c2.a = c.a ∧ c2.ab = c.ab ∧ c2.flt = c.flt := by rw [i7]; exact ⟨rfl, rfl, rfl, rfl, rfl, rfl⟩
  obtain ⟨hkE, hkW⟩ := rK_c (E := E) (c := c2) (s := s2) e2i.symm
  have hnn : ¬ (rK E s2 = 1 ∧ rW E s2 = 14836) := by rw [hkE, hkW, ← hw_10]; exact i2
  have hP : cPln E nest sm c = cFin (decide (k % 2 = 1)) (cPb E nest sm c2) := by unfold cPln; rw [i1]
  have hin2 : innL s2.pl = innL s.pl := by rw [e2.1, npl_i]
  rw [hP]
  unfold cPb
  by_cases hb : csg E 40 c2
  · rw [if_pos hb]
    have hb2 : rK E s2 = 3 ∧ rW E s2 = 40 := by rw [hkE, hkW]; exact hb
    have hst : rch E 1 0 s2 0 (rOpen E 31 s2) := by
      have := rch_0 (E := E) (u := 1) e2.2.2.1
      unfold rPlainV rPlain at this
      rw [if_neg hnn, if_pos hb2, if_neg hnn, if_pos hb2] at this
      exact this
    rcases hn with ⟨h1, h2⟩ | ⟨f, h1, h2, IH⟩
    · rw [h1]
      show ((cFin (decide (k % 2 = 1)) (false, cfl E c2)).1 = true → _) ∧ _
      rw [fin_no]
      refine ⟨(fun z => by cases z), fun _ => ?_⟩
      unfold rOpen at hst
      rw [if_neg (by omega)] at hst
      exact sno_fl (rch_tr i3 hst) (by show ((tkS E.tn E.tb c2.i : Nat) : Int) = _; rw [e2i])
    · rw [h1]
      unfold rOpen at hst
      rw [if_pos (by omega)] at hst
      have hg := tkE_gt (tn := E.tn) (tb := E.tb) (i := c2.i) i4.2.2.2.1 (show tkK E.tn E.tb c2.i ≠ 0 by have : tkK E.tn E.tb c2.i = 3 := hb.1; omega)
      obtain ⟨s3, hs3⟩ : ∃ s3, s3 = psh 31 0 (opn 1 (nxS E s2)) := ⟨_, rfl⟩
      rw [← hs3] at hst
      have hi4 := i4
      obtain ⟨p1, p2, p3, p4, p5, p6, p7, p8⟩ := i4
      have hp3 : SP E (cnx E c2) s3 := ⟨by rw [hs3]; show tkE E.tn E.tb c2.i = tkE E.tn E.tb s2.i; rw [e2i], by rw [hs3]; exact p2, by rw [hs3]; exact p3, hg.2, by show c2.sz ≤ tkE E.tn E.tb c2.i; omega, p6, p7, p8⟩
      have hpl3 : s3.pl = (31, 0) :: s2.pl := by rw [hs3]; rfl
      obtain ⟨j1, j2⟩ := IH (cnx E c2) s3 hp3 (by show 1 ≤ tkE E.tn E.tb c2.i; omega) (by rw [hs3]; show s2.op + 1 = _; omega) (by rw [hpl3]; show bnd_ 31 < 1; decide) (by rw [hpl3]; show (31 : Int) ≠ 32; decide)
      have chain := rch_tr i3 hst
      show ((cFin (decide (k % 2 = 1)) (if (f (cnx E c2)).1 = true then (if csg E 41 (f (cnx E c2)).2 then (true, cnx E (f (cnx E c2)).2) else (false, cfl E (f (cnx E c2)).2)) else (false, (f (cnx E c2)).2))).1 = true → TOK E 3 c s (cFin (decide (k % 2 = 1)) (if (f (cnx E c2)).1 = true then (if csg E 41 (f (cnx E c2)).2 then (true, cnx E (f (cnx E c2)).2) else (false, cfl E (f (cnx E c2)).2)) else (false, (f (cnx E c2)).2))).2 ∧ True) ∧ ((cFin (decide (k % 2 = 1)) (if (f (cnx E c2)).1 = true then (if csg E 41 (f (cnx E c2)).2 then (true, cnx E (f (cnx E c2)).2) else (false, cfl E (f (cnx E c2)).2)) else (false, (f (cnx E c2)).2))).1 = false → SNO E 1 0 s (cFin (decide (k % 2 = 1)) (if (f (cnx E c2)).1 = true then (if csg E 41 (f (cnx E c2)).2 then (true, cnx E (f (cnx E c2)).2) else (false, cfl E (f (cnx E c2)).2)) else (false, (f (cnx E c2)).2))).2.flt)
      by_cases hr : (f (cnx E c2)).1 = true
      · rw [if_pos hr]
        obtain ⟨hT, hw1, hw2⟩ := j1 hr
        obtain ⟨R, hRR⟩ : ∃ R, R = (f (cnx E c2)).2 := ⟨_, rfl⟩
        rw [← hRR] at hT hw1 hw2 ⊢
        obtain ⟨s4, f2, n2, d1, ⟨d2, d3, d4, d5, d6⟩, ⟨d7, d9⟩, ⟨x1, x2, x3⟩, ⟨e4, e5, e6⟩, ⟨e7, e8, e9⟩, ⟨k1, k2, k3, k4⟩, k5⟩ := hT
        obtain ⟨hk2E, hk2W⟩ := rK_c (E := E) (c := R) (s := s4) d2.symm
        have hin4 : innL s4.pl = 31 := by rw [d7, hpl3]; rfl
        have hst2 := rch_t (E := E) (u := 1) d4
        unfold rTestV rTest at hst2
        have na : ¬ (rK E s4 = 1 ∧ rW E s4 = 1476) := by rw [hk2E, hk2W, ← hw_12]; exact hw1
        have nb : ¬ (rK E s4 = 1 ∧ rW E s4 = 498) := by rw [hk2E, hk2W, ← hw_13]; exact hw2
        rw [if_neg na, if_neg nb, if_neg (by rw [hin4]; decide), if_neg na, if_neg nb, if_neg (by rw [hin4]; decide), hk2E, hk2W] at hst2
        by_cases hcl : csg E 41 R
        · have hcl2 : cK E R = 3 ∧ cW E R = 41 := hcl
          rw [if_pos hcl]
          rw [if_pos hcl2] at hst2
          have hg2 := tkE_gt (tn := E.tn) (tb := E.tb) (i := R.i) k2 (show tkK E.tn E.tb R.i ≠ 0 by have : tkK E.tn E.tb R.i = 3 := hcl.1; omega)
          obtain ⟨s5, hs5⟩ : ∃ s5, s5 = opn (-1) (popS (stS 1 (nxS E s4))) := ⟨_, rfl⟩
          rw [← hs5] at hst2
          have e5p : s5.pl = npl k s.pl := by rw [hs5]; show (stS 1 s4).pl.tail = _; rw [d9, hpl3]; exact e2.1
          have e5o : s5.o = (stS 1 s4).o ∧ s5.a = (stS 1 s4).a ∧ s5.nc = (stS 1 s4).nc := by rw [hs5]; exact ⟨rfl, rfl, rfl⟩
          have e3o : s3.o = s.o ∧ s3.a = s.a ∧ s3.nc = s.nc := by rw [hs3]; exact ⟨e2.2.2.2.2.2.2.1, e2.2.2.2.2.2.2.2, e2.2.2.2.2.2.1⟩
          have h4s : stS 4 s5 = s5 := stS_no (by rw [e5p]; exact npl_t htp)
          have hk1 : R.sz + tkE E.tn E.tb c2.i ≤ c2.sz + R.i := k1
          have hk4 : tkE E.tn E.tb c2.i + 1 ≤ R.i := k4
          have he7 : c2.pa + n2 = R.pa := e7
          have hfin := tok_fin (E := E) (c := c) (R := cnx E R) (s := s) (s5 := s5) (k := k) (n := n2) (f := f2) hp htp (rch_tr chain (rch_tr d1 hst2)) ⟨by rw [hs5]; show tkE E.tn E.tb s4.i = tkE E.tn E.tb R.i; rw [d2], by rw [hs5]; exact d3, by rw [hs5]; exact d4, by rw [hs5]; show s4.op + -1 = s.op; rw [d5, hs3]; show s2.op + 1 + -1 = s.op; omega, by rw [hs5]; show s4.bad = s.bad; rw [d6, hs3]; exact e2.2.1⟩ (by rw [e5p, npl_i]) (by rw [h4s]; exact e5p) (by
            rw [h4s, e5o.1, e5o.2.1, e5o.2.2]
            rw [e3o.1, e3o.2.1, e3o.2.2] at x2
            rw [e3o.2.2] at x1 x3
            exact ⟨x1, x2, x3⟩) ⟨by rw [← e3.2.1]; exact e4, e5, by rw [← e3.2.1, ← e3.2.2.1, ← e3.2.2.2.1]; exact e6⟩ ⟨by rw [← e3.1]; exact e7, e8, by rw [← e3.2.2.2.2.1]; exact e9⟩ ⟨by show R.sz + c.i + k ≤ c.sz + tkE E.tn E.tb R.i; omega, hg2.2, k3, by show c.i + 1 ≤ tkE E.tn E.tb R.i; omega⟩ (by show R.flt = c.flt; rw [← e3.2.2.2.2.2]; exact k5)
          exact ⟨fun _ => ⟨hfin.2, trivial⟩, fun z => by rw [hfin.1] at z; cases z⟩
        · have hcl2 : ¬ (cK E R = 3 ∧ cW E R = 41) := hcl
          rw [if_neg hcl, fin_no]
          rw [if_neg hcl2] at hst2
          refine ⟨(fun z => by cases z), fun _ => ?_⟩
          exact sno_fl (rch_tr chain (rch_tr d1 hst2)) (by show ((tkS E.tn E.tb R.i : Nat) : Int) = _; rw [d2])
      · rw [if_neg hr, fin_no]
        exact ⟨(fun z => by cases z), fun _ => sno_tr chain (j2 (eq_false_of_ne_true hr))⟩
  · rw [if_neg hb]
    have hb2 : ¬ (rK E s2 = 3 ∧ rW E s2 = 40) := by rw [hkE, hkW]; exact hb
    have htp2 : tpB s2.pl < 5 := by rw [e2.1]; have := npl_t (k := k) htp; omega
    obtain ⟨j1, j2⟩ := hsm c2 s2 i4 (by omega) htp2
    by_cases hr : (sm c2).1 = true
    · rw [if_pos hr]
      obtain ⟨hS, ⟨-, h47⟩, h55⟩ := j1 hr
      obtain ⟨R1, hR1⟩ : ∃ R, R = (sm c2).2 := ⟨_, rfl⟩
      rw [← hR1] at hS h47 h55 ⊢
      obtain ⟨s3, f1, n1, a1, ⟨a2, a3, a4, a5, a6⟩, ⟨a7, a8, a9⟩, ⟨b1, b2, b3⟩, ⟨b4, b5, b6⟩, ⟨b7, b8, b9⟩, ⟨q1, q2, q3, q4⟩, q5⟩ := hS
      have chain := rch_tr i3 (rch_01 e2.2.2.1 hnn hb2 a1)
      have hop := sg_no (E := E) (c := R1) (s := s3) a2.symm h47 h55
      obtain ⟨hk3E, hk3W⟩ := rK_c (E := E) (c := R1) (s := s3) a2.symm
      have hin3 : innL s3.pl ≠ 32 := by rw [a7, hin2]; exact hin
      have hcm3 : ¬ cmpL s3.pl = true := by rw [a8, e2.1, npl_c htp]; decide
      have hst2 := rch_s (E := E) (u := 1) a4
      unfold rSumV rSum at hst2
      rw [if_neg (by omega), if_neg hin3, if_neg (fun z => by have := z.2; omega), if_neg hcm3, if_neg (by omega), if_neg hin3, if_neg (fun z => by have := z.2; omega), if_neg hcm3] at hst2
      by_cases hm : sgO E 11 10 R1 = -1
      · rw [if_pos hm, fin_no]
        refine ⟨(fun z => by cases z), fun _ => ?_⟩
        rw [sg_11] at hm
        have hx : ¬ (rCm E s3 ≠ 27 ∨ (rK E s3 = 3 ∧ rW E s3 = 61)) := by
          unfold rCm
          rw [hk3E, hk3W]
          by_cases y1 : cK E R1 = 3 ∧ cW E R1 = 60
          · rw [if_pos y1] at hm; omega
          · rw [if_neg y1] at hm ⊢
            by_cases y2 : cK E R1 = 3 ∧ cW E R1 = 62
            · rw [if_pos y2] at hm; omega
            · rw [if_neg y2] at hm ⊢
              by_cases y3 : cK E R1 = 3 ∧ cW E R1 = 61
              · rw [if_pos y3] at hm; omega
              · intro z
                rcases z with z | z
                · exact z rfl
                · exact y3 z
        rw [if_neg hx] at hst2
        exact sno_fl (rch_tr chain hst2) (by show ((tkS E.tn E.tb R1.i : Nat) : Int) = _; rw [a2])
      · rw [if_neg hm]
        have hx : (rCm E s3 ≠ 27 ∨ (rK E s3 = 3 ∧ rW E s3 = 61)) ∧ rCm E s3 = sgO E 11 10 R1 + 15 ∧ (10 ≤ sgO E 11 10 R1 ∧ sgO E 11 10 R1 ≤ 12) ∧ cK E R1 = 3 := by
          rw [sg_11] at hm ⊢
          unfold rCm
          rw [hk3E, hk3W]
          by_cases y1 : cK E R1 = 3 ∧ cW E R1 = 60
          · rw [if_pos y1, if_pos y1]; exact ⟨Or.inl (by decide), rfl, by omega, y1.1⟩
          · rw [if_neg y1] at hm; rw [if_neg y1, if_neg y1]
            by_cases y2 : cK E R1 = 3 ∧ cW E R1 = 62
            · rw [if_pos y2, if_pos y2]; exact ⟨Or.inl (by decide), rfl, by omega, y2.1⟩
            · rw [if_neg y2] at hm; rw [if_neg y2, if_neg y2]
              by_cases y3 : cK E R1 = 3 ∧ cW E R1 = 61
              · rw [if_pos y3]; exact ⟨Or.inr y3, rfl, by omega, y3.1⟩
              · rw [if_neg y3] at hm; exact absurd rfl hm
        obtain ⟨m, hmm⟩ : ∃ m, m = sgO E 11 10 R1 := ⟨_, rfl⟩
        rw [← hmm] at hx ⊢
        obtain ⟨x1, x2, x3, x4⟩ := hx
        rw [if_pos x1, x2] at hst2
        have hg := tkE_gt (tn := E.tn) (tb := E.tb) (i := R1.i) q2 (show tkK E.tn E.tb R1.i ≠ 0 by have : tkK E.tn E.tb R1.i = 3 := x4; omega)
        obtain ⟨s4, hs4⟩ : ∃ s4, s4 = psh (m + 15) 0 (stS 5 (nxS E s3)) := ⟨_, rfl⟩
        rw [← hs4] at hst2
        have e4p : s4.pl = (m + 15, 0) :: npl k s.pl := by rw [hs4]; show (m + 15, 0) :: (stS 5 s3).pl = _; rw [a9, e2.1]
        have e4o : s4.o = (stS 5 s3).o ∧ s4.a = (stS 5 s3).a ∧ s4.nc = (stS 5 s3).nc := by rw [hs4]; exact ⟨rfl, rfl, rfl⟩
        have hbm : bnd_ (m + 15) = 4 := by
          unfold bnd_
          rw [if_neg (by omega), if_neg (by omega), if_neg (by omega), if_neg (by omega), if_pos (by omega)]
        obtain ⟨p1, p2, p3, p4, p5, p6, p7, p8⟩ := id i4
        have hk1 : R1.sz + c2.i ≤ c2.sz + R1.i := q1
        have hp4 : SP E (cnx E R1) s4 := ⟨by rw [hs4]; show tkE E.tn E.tb R1.i = tkE E.tn E.tb s3.i; rw [a2], by rw [hs4]; exact a3.symm, by rw [hs4]; exact a4, hg.2, by show R1.sz ≤ tkE E.tn E.tb R1.i; omega, q3, by show R1.ab = 0 ∨ R1.ab = 1; omega, p8⟩
        obtain ⟨l1, l2⟩ := hsm (cnx E R1) s4 hp4 (by rw [hs4]; show s3.op = ov; omega) (by rw [e4p]; show bnd_ (m + 15) < 5; omega)
        have chain2 := rch_tr chain hst2
        by_cases hr2 : (sm (cnx E R1)).1 = true
        · rw [hr2]
          obtain ⟨hS2, ⟨-, h47b⟩, h55b⟩ := l1 hr2
          obtain ⟨R2, hR2⟩ : ∃ R, R = (sm (cnx E R1)).2 := ⟨_, rfl⟩
          rw [← hR2] at hS2 h47b h55b ⊢
          obtain ⟨s5, f2, n2, d1, ⟨d2, d3, d4, d5, d6⟩, ⟨d7, d8, d9⟩, ⟨z1, z2, z3⟩, ⟨e4, e5, e6⟩, ⟨e7, e8, e9⟩, ⟨k1, k2, k3, k4⟩, k5⟩ := hS2
          have hop5 := sg_no (E := E) (c := R2) (s := s5) d2.symm h47b h55b
          have hin5 : innL s5.pl = innL s.pl := by rw [d7, e4p]; show (if 31 ≤ m + 15 then m + 15 else innL (npl k s.pl)) = _; rw [if_neg (by omega), npl_i]
          have hcm5 : cmpL s5.pl = true := by rw [d8, e4p]; show (if 20 ≤ m + 15 ∧ m + 15 ≤ 24 then cmpL (npl k s.pl) else decide (25 ≤ m + 15 ∧ m + 15 ≤ 27)) = true; rw [if_neg (by omega)]; exact decide_eq_true (by omega)
          have hst5 := rch_s (E := E) (u := 1) d4
          unfold rSumV rSum at hst5
          rw [if_neg (by omega), if_neg (by rw [hin5]; exact hin), if_neg (fun z => by have := z.2; omega), if_pos hcm5, if_neg (by omega), if_neg (by rw [hin5]; exact hin), if_neg (fun z => by have := z.2; omega), if_pos hcm5] at hst5
          have hk1b : R2.sz + tkE E.tn E.tb R1.i ≤ R1.sz + R2.i := k1
          have hk4b : tkE E.tn E.tb R1.i + 1 ≤ R2.i := k4
          have hGs : R2.sz < 400 := by omega
          have h4s : stS 4 s5 = (s5.i, s5.bad, s5.flt, npl k s.pl, s5.op, s5.lv, (stS 5 s5).nc + 1, fup (stS 5 s5).o (stS 5 s5).nc (m + 15), fup (stS 5 s5).a (stS 5 s5).nc 0) := by
            rw [← stS_stS (show (4 : Int) ≤ 5 by decide) s5]
            have hpl5 : (stS 5 s5).pl = (m + 15, 0) :: npl k s.pl := d9.trans e4p
            show (s5.i, s5.bad, s5.flt, (stl 4 (stS 5 s5).pl (stS 5 s5).nc (stS 5 s5).o (stS 5 s5).a).1, s5.op, s5.lv, (stl 4 (stS 5 s5).pl (stS 5 s5).nc (stS 5 s5).o (stS 5 s5).a).2.1, (stl 4 (stS 5 s5).pl (stS 5 s5).nc (stS 5 s5).o (stS 5 s5).a).2.2.1, (stl 4 (stS 5 s5).pl (stS 5 s5).nc (stS 5 s5).o (stS 5 s5).a).2.2.2) = _
            rw [hpl5, stl_op (by show 4 ≤ bnd_ (m + 15); omega) (by show m + 15 ≠ 29 ∧ m + 15 ≠ 30; omega), stl_no (npl_t htp)]
          have en : (stS 5 s3).nc ≤ (stS 5 s5).nc := by rw [← e4o.2.2]; exact z1
          have he7 : R1.pa + n2 = R2.pa := e7
          have hb7 : c2.pa + n1 = R1.pa := b7
          have hx2 : R1.sz ≤ R2.sz := e4.1
          have hx1 : c2.sz ≤ R1.sz := b4.1
          have hncs : s.nc ≤ (stS 5 s3).nc := by rw [← e2.2.2.2.2.2.1]; exact b1
          have hfin := tok_fin (E := E) (c := c) (R := cad m 0 R2) (s := s) (s5 := s5) (k := k) (n := n1 + n2) (f := bn m f1 f2) hp htp (rch_tr chain2 (rch_tr d1 hst5)) ⟨by rw [cad_ok hGs]; exact d2, by rw [cad_ok hGs]; exact d3, d4, by rw [d5, hs4]; show s3.op = s.op; omega, by rw [d6, hs4]; show s3.bad = s.bad; rw [a6]; exact e2.2.1⟩ hin5 (by rw [h4s]; rfl) (by
            rw [h4s]
            refine ⟨by show s.nc ≤ (stS 5 s5).nc + 1; omega, fun j hj => ?_, ?_⟩
            · show fup (stS 5 s5).o (stS 5 s5).nc (m + 15) j = s.o j ∧ fup (stS 5 s5).a (stS 5 s5).nc 0 j = s.a j
              rw [fup_n (by omega), fup_n (by omega)]
              obtain ⟨y1, y2⟩ := z2 j (by rw [e4o.2.2]; omega)
              obtain ⟨y3, y4⟩ := b2 j (by rw [e2.2.2.2.2.2.1]; exact hj)
              rw [y1, y2, e4o.1, e4o.2.1, y3, y4, e2.2.2.2.2.2.2.1, e2.2.2.2.2.2.2.2]
              exact ⟨rfl, rfl⟩
            · show rM E.od (fup (stS 5 s5).o (stS 5 s5).nc (m + 15)) (fup (stS 5 s5).a (stS 5 s5).nc 0) s.nc ((stS 5 s5).nc + 1) (bn m f1 f2)
              refine rM_bn (y := (stS 5 s3).nc) (rM_fr (o := (stS 5 s3).o) (a := (stS 5 s3).a) (by rw [← e2.2.2.2.2.2.1]; exact b3) (fun j j1 j2 => ?_)) (rM_fr (o := (stS 5 s5).o) (a := (stS 5 s5).a) (by rw [← e4o.2.2]; exact z3) (fun j j1 j2 => ⟨fup_n (by omega), fup_n (by omega)⟩)) (by omega) (fup_s _ _ _)
              obtain ⟨y1, y2⟩ := z2 j (by rw [e4o.2.2]; exact j2)
              rw [fup_n (by omega), fup_n (by omega), y1, y2, e4o.1, e4o.2.1]
              exact ⟨rfl, rfl⟩) (by
            rw [cad_ok hGs]
            refine ⟨cM_bn (y := R1.sz) (cM_fr (cM_ab (by rw [← e3.2.1]; exact b4) (by show R2.ab = R1.ab ∨ R1.ab = 0; have e9' : R2.ab = R1.ab ∨ (R1.ab = 0 ∧ R2.ab = 1) := e9; omega)) (fun j j1 j2 => ?_)) (cM_fr (show cM E.od R2.ab R2.o R2.a R1.sz R2.sz n2 f2 from e4) (fun j j1 j2 => ⟨fup_n (by omega), fup_n (by omega)⟩)) (by omega) (fup_s _ _ _) b8, fT_bn x3, fun j hj => ?_⟩
            · obtain ⟨y1, y2⟩ := e6 j j2
              show fup R2.o R2.sz m j = R1.o j ∧ fup R2.a R2.sz 0 j = R1.a j
              rw [fup_n (by omega), fup_n (by omega)]
              exact ⟨y1, y2⟩
            · have hj2 : j < c2.sz := by rw [e3.2.1]; exact hj
              obtain ⟨y1, y2⟩ := e6 j (show j < R1.sz by omega)
              obtain ⟨y3, y4⟩ := b6 j hj2
              show fup R2.o R2.sz m j = c.o j ∧ fup R2.a R2.sz 0 j = c.a j
              rw [fup_n (by omega), fup_n (by omega), ← e3.2.2.1, ← e3.2.2.2.1]
              exact ⟨y1.trans y3, y2.trans y4⟩) (by
            rw [cad_ok hGs]
            refine ⟨by show c.pa + (n1 + n2) = R2.pa; omega, by omega, ?_⟩
            show R2.ab = c.ab ∨ (c.ab = 0 ∧ R2.ab = 1)
            have e9' : R2.ab = R1.ab ∨ (R1.ab = 0 ∧ R2.ab = 1) := e9
            have b9' : R1.ab = c2.ab ∨ (c2.ab = 0 ∧ R1.ab = 1) := b9
            have := e3.2.2.2.2.1
            omega) (by
            rw [cad_ok hGs]
            exact ⟨by show R2.sz + 1 + c.i + k ≤ c.sz + R2.i; omega, k2, k3, by show c.i + 1 ≤ R2.i; omega⟩) (by rw [(cad_i _ _ _).2, ← e3.2.2.2.2.2]; exact k5.trans q5)
          exact ⟨fun _ => ⟨hfin.2, trivial⟩, fun z => by rw [hfin.1] at z; cases z⟩
        · rw [eq_false_of_ne_true hr2, fin_no]
          refine ⟨(fun z => by cases z), fun _ => ?_⟩
          show SNO E 1 0 s (cad m 0 (sm (cnx E R1)).2).flt
          rw [(cad_i _ _ _).2]
          exact sno_tr chain2 (l2 (eq_false_of_ne_true hr2))
    · rw [if_neg hr, fin_no]
      refine ⟨(fun z => by cases z), fun _ => ?_⟩
      obtain ⟨t', s', w1, w2⟩ := j2 (eq_false_of_ne_true hr)
      exact ⟨t', s', rch_tr i3 (rch_01 e2.2.2.1 hnn hb2 w1), w2⟩

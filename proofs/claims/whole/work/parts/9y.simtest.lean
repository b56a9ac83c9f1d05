/-! the two readers: both and test -/
theorem tok_dn {E : rdE} {b b1 : Int} {c r : cS} {s : rdS} (h : TOK E b1 c s r) (hb : b ≤ b1) (htp : tpB s.pl < b) : TOK E b c s r := by
  obtain ⟨s', f, n, a1, a2, ⟨a3, a4⟩, a5, a6, a7, a8, a9⟩ := h
  have e : stS b s' = stS b1 s' := by rw [← stS_stS hb s']; exact stS_no (by rw [a4]; exact htp)
  exact ⟨s', f, n, a1, a2, ⟨a3, by rw [e]; exact a4⟩, by rw [e]; exact a5, a6, a7, a8, a9⟩
def lvlJ (t : Nat) (op b b1 n : Int) : Prop := (t = 12 ∧ op = 3 ∧ b = 2 ∧ b1 = 3 ∧ n = 0) ∨ (t = 13 ∧ op = 4 ∧ b = 1 ∧ b1 = 2 ∧ n = 1)
theorem rt_jn {E : rdE} {t : Nat} {op b b1 n : Int} {Pg : cS → Prop} {r : cS} {s : rdS} (hl : lvlJ t op b b1 n) (hi : s.i = r.i) (hf : s.flt = 0) (hPg : t = 13 → ¬ cwd E 12 r) (hw : cwd E t r) : rch E 1 2 s 0 (nxS E (emt (29 + n) 0 (psh (29 + n) (((stS b s).nc : Nat) : Int) (stS b s)))) := by
  obtain ⟨hkE, hkW⟩ := rK_c (E := E) (c := r) (s := s) hi.symm
  have h := rch_t (E := E) (u := 1) hf
  unfold rTestV rTest at h
  rcases hl with ⟨rfl, -, rfl, -, rfl⟩ | ⟨rfl, -, rfl, -, rfl⟩
  · have y : rK E s = 1 ∧ rW E s = 1476 := by rw [hkE, hkW, ← hw_12]; exact hw
    rw [if_pos y, if_pos y] at h
    exact h
  · have y : rK E s = 1 ∧ rW E s = 498 := by rw [hkE, hkW, ← hw_13]; exact hw
    have z : ¬ (rK E s = 1 ∧ rW E s = 1476) := by rw [hkE, hkW, ← hw_12]; exact hPg rfl
    rw [if_neg z, if_pos y, if_neg z, if_pos y] at h
    exact h
theorem aim_f (dc : Nat) (s : cS) : (aim dc s).flt = s.flt ∧ (aim dc s).i = s.i := by unfold aim; split <;> exact ⟨rfl, rfl⟩
theorem sim_jlp {E : rdE} {ov b b1 op n : Int} {t : Nat} {g : cS → Bool × cS} {Pg : cS → Prop} (hl : lvlJ t op b b1 n) (hg : OPT E ov b1 g Pg) (hPi : ∀ c c2 : cS, c.i = c2.i → Pg c → Pg c2) (hPg : ∀ c, Pg c → t = 13 → ¬ cwd E 12 c) {c : cS} {s : rdS} (hp : SP E c s) (hc1 : 1 ≤ c.i) (hov : s.op = ov) (htp : tpB s.pl < b) (hin : innL s.pl ≠ 32) : ∀ f r, E.tn - r.i < f → TOK E b c s r → Pg r → ((jLp E t op g f (true, r)).1 = true → TOK E b c s (jLp E t op g f (true, r)).2 ∧ Pg (jLp E t op g f (true, r)).2 ∧ ¬ cwd E t (jLp E t op g f (true, r)).2) ∧ ((jLp E t op g f (true, r)).1 = false → SNO E 1 0 s (jLp E t op g f (true, r)).2.flt) := by
  intro f
  induction f with
  | zero => intro r hf; omega
  | succ f ih =>
    intro r hf hS hP
    have hb9 : jLp E t op g (f + 1) (true, r) = if (true = true ∧ cwd E t r) then jLp E t op g f ((g (cnx E (cad op 0 r))).1, aim r.sz (g (cnx E (cad op 0 r))).2) else (true, r) := rfl
    rw [hb9]
    by_cases ho : cwd E t r
    case neg =>
      rw [if_neg (fun z => ho z.2)]
      exact ⟨fun _ => ⟨hS, hP, ho⟩, (fun z => by cases z)⟩
    case pos =>
      have hcond : (true = true ∧ cwd E t r) := ⟨rfl, ho⟩
      rw [if_pos hcond]
      obtain ⟨s', f1, n1, a1, ⟨a2, a3, a4, a5, a6⟩, ⟨a7, a9⟩, ⟨b1', b2, b3⟩, ⟨b4, b5, b6⟩, ⟨b7, b8, b9⟩, ⟨c1, c2, c3, c4⟩, c5⟩ := id hS
      obtain ⟨hpi, hpl, hpf, hpt, hps, hp5, hpab, hpn⟩ := id hp
      have hg2 := tkE_gt (tn := E.tn) (tb := E.tb) (i := r.i) c2 (show tkK E.tn E.tb r.i ≠ 0 by have : tkK E.tn E.tb r.i = 1 := ho.1; omega)
      have hrs : r.sz < 400 := by omega
      obtain ⟨r2, hr2⟩ : ∃ r2, r2 = cnx E (cad op 0 r) := ⟨_, rfl⟩
      rw [← hr2]
      have hr2e : r2 = (tkE E.tn E.tb r.i, r.pa, r.sz + 1, fup r.o r.sz op, fup r.a r.sz 0, r.ab, r.flt) := by rw [hr2, cad_ok hrs]; rfl
      obtain ⟨s2, hs2⟩ : ∃ s2, s2 = nxS E (emt (29 + n) 0 (psh (29 + n) (((stS b s').nc : Nat) : Int) (stS b s'))) := ⟨_, rfl⟩
      have hst : rch E 1 2 s' 0 s2 := by rw [hs2]; exact rt_jn (Pg := Pg) hl a2 a4 (hPg r hP) ho
      have hbb : b ≤ b1 ∧ b < b1 ∧ (n = 0 ∨ n = 1) ∧ op = 3 + n ∧ bnd_ (29 + n) = b := by
        rcases hl with ⟨-, h1, h2, h3, h4⟩ | ⟨-, h1, h2, h3, h4⟩
        · subst h1 h2 h3 h4; exact ⟨by decide, by decide, Or.inl rfl, rfl, by decide⟩
        · subst h1 h2 h3 h4; exact ⟨by decide, by decide, Or.inr rfl, rfl, by decide⟩
      obtain ⟨hb1, hb2, hn01, hop3, hbn⟩ := hbb
      have e2i : s2.i = tkE E.tn E.tb r.i := by rw [hs2]; show tkE E.tn E.tb s'.i = _; rw [a2]
      have e2p : s2.pl = (29 + n, (((stS b s').nc : Nat) : Int)) :: s.pl := by rw [hs2]; show (29 + n, (((stS b s').nc : Nat) : Int)) :: (stS b s').pl = _; rw [a9]
      have e2o : s2.o = fup (stS b s').o (stS b s').nc (29 + n) := by rw [hs2]; rfl
      have e2a : s2.a = fup (stS b s').a (stS b s').nc 0 := by rw [hs2]; rfl
      have e2n : s2.nc = (stS b s').nc + 1 := by rw [hs2]; rfl
      have hp2 : SP E r2 s2 := by
        rw [hr2e]
        exact ⟨e2i.symm, by rw [hs2]; exact a3.symm, by rw [hs2]; exact a4, hg2.2, by show r.sz + 1 ≤ tkE E.tn E.tb r.i; omega, c3, by show r.ab = 0 ∨ r.ab = 1; omega, hpn⟩
      have hop2 : s2.op = ov := by rw [hs2]; show s'.op = ov; rw [a5, hov]
      have hr2i : r2.i = tkE E.tn E.tb r.i := by rw [hr2e]; rfl
      have hin2 : innL s2.pl = innL s.pl := by rw [e2p]; show (if 31 ≤ 29 + n then 29 + n else innL s.pl) = _; rw [if_neg (by omega)]
      obtain ⟨g1, g2⟩ := hg r2 s2 hp2 (by omega) hop2 (by rw [e2p]; show bnd_ (29 + n) < b1; omega) (by rw [hin2]; exact hin)
      have chain : rch E 1 0 s 0 s2 := rch_tr a1 hst
      by_cases hr : (g r2).1 = true
      · rw [hr]
        obtain ⟨q1, q2⟩ := g1 hr
        obtain ⟨G, hG⟩ : ∃ G, G = (g r2).2 := ⟨_, rfl⟩
        rw [← hG] at q1 q2
        obtain ⟨s3, f2, n2, d1, ⟨d2, d3, d4, d5, d6⟩, ⟨d7, d9⟩, ⟨e1, e2, e3⟩, ⟨e4, e5, e6⟩, ⟨e7, e8, e9⟩, ⟨k1, k2, k3, k4⟩, k5⟩ := id q1
        rw [hr2e] at e4 e6 e7 e9 k1 k4 k5
        have hk1 : G.sz + tkE E.tn E.tb r.i ≤ r.sz + 1 + G.i := k1
        have hk4 : tkE E.tn E.tb r.i + 1 ≤ G.i := k4
        have he7 : r.pa + n2 = G.pa := e7
        have hGs : r.sz + 1 ≤ G.sz := e4.1
        have he4 : cM E.od G.ab G.o G.a (r.sz + 1) G.sz n2 f2 := e4
        have he6 : ∀ j, j < r.sz + 1 → G.o j = fup r.o r.sz op j ∧ G.a j = fup r.a r.sz 0 j := e6
        have he9 : G.ab = r.ab ∨ (r.ab = 0 ∧ G.ab = 1) := e9
        have hk5 : G.flt = r.flt := k5
        have ham : aim r.sz G = (G.i, G.pa, G.sz, G.o, fup G.a r.sz ((G.sz : Nat) : Int), G.ab, G.flt) := by unfold aim; rw [if_pos (by omega)]
        have hfl : stS b s3 = (s3.i, s3.bad, s3.flt, s.pl, s3.op, s3.lv, (stS b1 s3).nc, (stS b1 s3).o, fup (stS b1 s3).a (stS b s').nc (((stS b1 s3).nc : Nat) : Int)) := by
          rw [← stS_stS hb1 s3]
          have hpl3 : (stS b1 s3).pl = (29 + n, (((stS b s').nc : Nat) : Int)) :: s.pl := d9.trans e2p
          show (s3.i, s3.bad, s3.flt, (stl b (stS b1 s3).pl (stS b1 s3).nc (stS b1 s3).o (stS b1 s3).a).1, s3.op, s3.lv, (stl b (stS b1 s3).pl (stS b1 s3).nc (stS b1 s3).o (stS b1 s3).a).2.1, (stl b (stS b1 s3).pl (stS b1 s3).nc (stS b1 s3).o (stS b1 s3).a).2.2.1, (stl b (stS b1 s3).pl (stS b1 s3).nc (stS b1 s3).o (stS b1 s3).a).2.2.2) = _
          rw [hpl3, stl_jp (by show b ≤ bnd_ (29 + n); omega) (by show 29 + n = 29 ∨ 29 + n = 30; omega), stl_no htp]
          show (s3.i, s3.bad, s3.flt, s.pl, s3.op, s3.lv, (stS b1 s3).nc, (stS b1 s3).o, fup (stS b1 s3).a ((((stS b s').nc : Nat) : Int)).toNat (((stS b1 s3).nc : Nat) : Int)) = _
          rw [Int.toNat_natCast]
        have en : (stS b s').nc + 1 ≤ (stS b1 s3).nc := by rw [← e2n]; exact e1
        have hS2 : TOK E b c s (aim r.sz G) := by
          rw [ham]
          refine ⟨s3, jn n f1 f2, n1 + n2, rch_tr chain d1, ⟨d2, d3, d4, d5.trans (hop2.trans hov.symm), ?_⟩, ⟨?_, by rw [hfl]; rfl⟩, ?_, ?_, ?_, ?_, hk5.trans c5⟩
          · rw [d6, hs2]; exact a6
          · rw [d7, hin2]
          · rw [hfl]
            refine ⟨by show s.nc ≤ (stS b1 s3).nc; omega, fun j hj => ?_, ?_⟩
            · show (stS b1 s3).o j = s.o j ∧ fup (stS b1 s3).a (stS b s').nc (((stS b1 s3).nc : Nat) : Int) j = s.a j
              rw [fup_n (by omega)]
              obtain ⟨y1, y2⟩ := e2 j (by rw [e2n]; omega)
              obtain ⟨y3, y4⟩ := b2 j hj
              rw [y1, y2, e2o, e2a, fup_n (by omega), fup_n (by omega)]
              exact ⟨y3, y4⟩
            · show rM E.od (stS b1 s3).o (fup (stS b1 s3).a (stS b s').nc (((stS b1 s3).nc : Nat) : Int)) s.nc (stS b1 s3).nc (jn n f1 f2)
              refine rM_jn (y := (stS b s').nc) (rM_fr b3 (fun j j1 j2 => ?_)) (rM_fr (o := (stS b1 s3).o) (a := (stS b1 s3).a) (by rw [← e2n]; exact e3) (fun j j1 j2 => ⟨rfl, fup_n (by omega)⟩)) b5 hn01 ?_ (fup_s _ _ _)
              · obtain ⟨y1, y2⟩ := e2 j (by rw [e2n]; omega)
                rw [fup_n (by omega), y1, y2, e2o, e2a, fup_n (by omega), fup_n (by omega)]
                exact ⟨rfl, rfl⟩
              · rw [(e2 (stS b s').nc (by rw [e2n]; omega)).1, e2o]
                exact fup_s _ _ _
          · have hx1 := b4.1
            refine ⟨cM_jn (y := r.sz) (cM_fr (cM_ab b4 (by show G.ab = r.ab ∨ r.ab = 0; omega)) (fun j j1 j2 => ?_)) (cM_fr he4 (fun j j1 j2 => ⟨rfl, fup_n (by omega)⟩)) b5 hn01 ?_ (fup_s _ _ _) b8, fT_jn b5 e5, fun j hj => ?_⟩
            · obtain ⟨y1, y2⟩ := he6 j (by omega)
              show G.o j = r.o j ∧ fup G.a r.sz ((G.sz : Nat) : Int) j = r.a j
              rw [fup_n (by omega), y1, y2, fup_n (by omega), fup_n (by omega)]
              exact ⟨rfl, rfl⟩
            · show G.o r.sz = 3 + n
              rw [(he6 r.sz (by omega)).1, fup_s]
              exact hop3
            · obtain ⟨y1, y2⟩ := he6 j (by omega)
              obtain ⟨y3, y4⟩ := b6 j hj
              show G.o j = c.o j ∧ fup G.a r.sz ((G.sz : Nat) : Int) j = c.a j
              rw [fup_n (by omega), y1, y2, fup_n (by omega), fup_n (by omega)]
              exact ⟨y3, y4⟩
          · refine ⟨by show c.pa + (n1 + n2) = G.pa; omega, by omega, ?_⟩
            show G.ab = c.ab ∨ (c.ab = 0 ∧ G.ab = 1)
            omega
          · exact ⟨by show G.sz + c.i ≤ c.sz + G.i; omega, k2, k3, by show c.i + 1 ≤ G.i; omega⟩
        have hi2 : (aim r.sz G).i = G.i := (aim_f _ _).2
        have := ih (aim r.sz G) (by rw [hi2]; omega) hS2 (hPi G _ hi2.symm q2)
        rw [← hG]
        exact this
      · have hr3 : (g r2).1 = false := eq_false_of_ne_true hr
        rw [hr3, jLp_e (fun z => by cases z.1) f]
        refine ⟨(fun z => by cases z), fun _ => ?_⟩
        show SNO E 1 0 s (aim r.sz (g r2).2).flt
        rw [(aim_f _ _).1]
        exact sno_tr chain (g2 hr3)
theorem sim_jl {E : rdE} {ov b b1 op n : Int} {t : Nat} {g : cS → Bool × cS} {Pg : cS → Prop} (hl : lvlJ t op b b1 n) (hg : OPT E ov b1 g Pg) (hPi : ∀ c c2 : cS, c.i = c2.i → Pg c → Pg c2) (hPg : ∀ c, Pg c → t = 13 → ¬ cwd E 12 c) : OPT E ov b (fun c => jLp E t op g 400 (g c)) (fun r => Pg r ∧ ¬ cwd E t r) := by
  intro c s hp hc1 hov htp hin
  have hbb : b ≤ b1 := by rcases hl with z | z <;> omega
  obtain ⟨h1, h2⟩ := hg c s hp hc1 hov (by omega) hin
  show ((jLp E t op g 400 (g c)).1 = true → _) ∧ ((jLp E t op g 400 (g c)).1 = false → _)
  by_cases hr : (g c).1 = true
  · obtain ⟨hS, hP⟩ := h1 hr
    have e : g c = (true, (g c).2) := by rw [← hr]
    have hS2 := tok_dn hS hbb htp
    obtain ⟨s', f1, n1, a1, a2, a3, b1', b4, b7, ⟨c1, c2, c3, c4⟩, c5⟩ := id hS
    have htn := hp.2.2.2.2.2.2.2
    have := sim_jlp hl hg hPi hPg hp hc1 hov htp hin 400 (g c).2 (by omega) hS2 hP
    rw [← e] at this
    exact ⟨fun z => ⟨(this.1 z).1, (this.1 z).2⟩, this.2⟩
  · have e : (g c).1 = false := eq_false_of_ne_true hr
    have e2 := jLp_e (E := E) (t := t) (op := op) (g := g) (r := g c) (fun z => hr z.1) 400
    refine ⟨fun z => absurd (by rw [e2] at z; exact z) hr, fun _ => ?_⟩
    show SNO E 1 0 s (jLp E t op g 400 (g c)).2.flt
    rw [e2]
    exact h2 e
theorem cwd_i {E : rdE} {t : Nat} {c c2 : cS} (h : c.i = c2.i) : ¬ cwd E t c → ¬ cwd E t c2 := by
  unfold cwd cK cW
  rw [h]
  exact id
theorem sim_test {E : rdE} (hE : hEw E) : ∀ D : Nat, D ≤ 8 → OPT E (8 - (D : Int)) 1 (cTs E D) (fun r => ¬ cwd E 12 r ∧ ¬ cwd E 13 r) := by
  intro D
  have step : ∀ (nest : Option (cS → Bool × cS)) (sm : cS → Bool × cS) (ov : Int), OPT E ov 3 (cPln E nest sm) (fun _ => True) → OPT E ov 1 (cTst E nest sm) (fun r => ¬ cwd E 12 r ∧ ¬ cwd E 13 r) := by
    intro nest sm ov h
    have h2 : OPT E ov 2 (cBth E nest sm) (fun r => True ∧ ¬ cwd E 12 r) := sim_jl (Or.inl ⟨rfl, rfl, rfl, rfl, rfl⟩) h (fun _ _ _ _ => trivial) (fun _ _ z => by cases z)
    have h3 : OPT E ov 1 (cTst E nest sm) (fun r => (True ∧ ¬ cwd E 12 r) ∧ ¬ cwd E 13 r) := sim_jl (Or.inr ⟨rfl, rfl, rfl, rfl, rfl⟩) h2 (fun c c2 hi hP => ⟨trivial, cwd_i hi hP.2⟩) (fun c hP _ => hP.2)
    intro c s a1 a2 a3 a4 a5
    obtain ⟨q1, q2⟩ := h3 c s a1 a2 a3 a4 a5
    exact ⟨fun z => ⟨(q1 z).1, (q1 z).2.1.2, (q1 z).2.2⟩, q2⟩
  induction D with
  | zero => intro _; exact step none (cSm E 0) _ (sim_plain (sim_sum (u := 1) hE 0 (by omega)) (Or.inl ⟨rfl, by omega⟩))
  | succ D ih =>
    intro hD
    have hi := ih (by omega)
    refine step (some (cTs E D)) (cSm E (D + 1)) _ (sim_plain (sim_sum (u := 1) hE (D + 1) hD) (Or.inr ⟨cTs E D, rfl, by omega, ?_⟩))
    rw [show 8 - ((D + 1 : Nat) : Int) + 1 = 8 - (D : Int) by omega]
    exact hi

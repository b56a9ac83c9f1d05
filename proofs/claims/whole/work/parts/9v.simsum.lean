/-! the two readers: terms, sums -/
theorem stl_stl {l1 l2 : Int} (h : l2 ≤ l1) : ∀ (pl : rd_P) (nc : Nat) (o a : Nat → Int), stl l2 (stl l1 pl nc o a).1 (stl l1 pl nc o a).2.1 (stl l1 pl nc o a).2.2.1 (stl l1 pl nc o a).2.2.2 = stl l2 pl nc o a := by
  intro pl
  induction pl with
  | nil => intro nc o a; rfl
  | cons e r ih =>
    intro nc o a
    by_cases h1 : l1 ≤ bnd_ e.1
    · by_cases h2 : e.1 = 29 ∨ e.1 = 30
      · rw [stl_jp h1 h2, stl_jp (Int.le_trans h h1) h2]; exact ih _ _ _
      · rw [stl_op h1 (by omega), stl_op (Int.le_trans h h1) (by omega)]; exact ih _ _ _
    · rw [show stl l1 (e :: r) nc o a = (e :: r, nc, o, a) from stl_no (by show bnd_ e.1 < l1; omega)]
theorem stS_stS {l1 l2 : Int} (h : l2 ≤ l1) (s : rdS) : stS l2 (stS l1 s) = stS l2 s := by
  have e := stl_stl h s.pl s.nc s.o s.a
  unfold stS
  show (s.i, s.bad, s.flt, (stl l2 (stl l1 s.pl s.nc s.o s.a).1 (stl l1 s.pl s.nc s.o s.a).2.1 (stl l1 s.pl s.nc s.o s.a).2.2.1 (stl l1 s.pl s.nc s.o s.a).2.2.2).1, s.op, s.lv, (stl l2 (stl l1 s.pl s.nc s.o s.a).1 (stl l1 s.pl s.nc s.o s.a).2.1 (stl l1 s.pl s.nc s.o s.a).2.2.1 (stl l1 s.pl s.nc s.o s.a).2.2.2).2.1, (stl l2 (stl l1 s.pl s.nc s.o s.a).1 (stl l1 s.pl s.nc s.o s.a).2.1 (stl l1 s.pl s.nc s.o s.a).2.2.1 (stl l1 s.pl s.nc s.o s.a).2.2.2).2.2.1, (stl l2 (stl l1 s.pl s.nc s.o s.a).1 (stl l1 s.pl s.nc s.o s.a).2.1 (stl l1 s.pl s.nc s.o s.a).2.2.1 (stl l1 s.pl s.nc s.o s.a).2.2.2).2.2.2) = _
  rw [e]
theorem sok_dn {E : rdE} {u b b1 : Int} {c : cS} {s : rdS} {r : cS} (h : SOK E u b1 c s r) (hb : b ≤ b1) (ht : tpB s.pl < b) : SOK E u b c s r := by
  obtain ⟨s', f, n, h1, h2, ⟨h3, h4, h5⟩, h6⟩ := h
  have e : stS b s' = stS b1 s' := by
    rw [← stS_stS hb s']
    exact stS_no (by rw [h5]; exact ht)
  exact ⟨s', f, n, h1, h2, ⟨h3, h4, by rw [e]; exact h5⟩, by rw [e]; exact h6⟩
theorem sg_5 (E : rdE) (c : cS) : sgO E 5 5 c = if cK E c = 3 ∧ cW E c = 43 then 5 else if cK E c = 3 ∧ cW E c = 45 then 6 else -1 := by
  unfold sgO
  rw [show (px_txt 5).length = 2 by decide +kernel]
  simp only [sgF]
  rw [show chr 5 0 = 43 by decide +kernel, show chr 5 (0 + 1) = 45 by decide +kernel]
  rfl
theorem sg_4 (E : rdE) (c : cS) : sgO E 4 7 c = if cK E c = 3 ∧ cW E c = 42 then 7 else if cK E c = 3 ∧ cW E c = 47 then 8 else if cK E c = 3 ∧ cW E c = 37 then 9 else -1 := by
  unfold sgO
  rw [show (px_txt 4).length = 3 by decide +kernel]
  simp only [sgF]
  rw [show chr 4 0 = 42 by decide +kernel, show chr 4 (0 + 1) = 47 by decide +kernel, show chr 4 (0 + 1 + 1) = 37 by decide +kernel]
  rfl
theorem sg_11 (E : rdE) (c : cS) : sgO E 11 10 c = if cK E c = 3 ∧ cW E c = 60 then 10 else if cK E c = 3 ∧ cW E c = 62 then 11 else if cK E c = 3 ∧ cW E c = 61 then 12 else -1 := by
  unfold sgO
  rw [show (px_txt 11).length = 3 by decide +kernel]
  simp only [sgF]
  rw [show chr 11 0 = 60 by decide +kernel, show chr 11 (0 + 1) = 62 by decide +kernel, show chr 11 (0 + 1 + 1) = 61 by decide +kernel]
  rfl
/-- the levels: terms are made of parts, sums of terms -/
def lvlB (t : Nat) (fo b b1 : Int) : Prop := (t = 4 ∧ fo = 7 ∧ b = 6 ∧ b1 = 7) ∨ (t = 5 ∧ fo = 5 ∧ b = 5 ∧ b1 = 6)
theorem sg_op {E : rdE} {c : cS} {s : rdS} {t : Nat} {fo b b1 : Int} (hl : lvlB t fo b b1) (hi : c.i = s.i) (h : sgO E t fo c ≠ -1) : rOp E s = sgO E t fo c + 15 ∧ bnd_ (sgO E t fo c + 15) = b ∧ (5 ≤ sgO E t fo c ∧ sgO E t fo c ≤ 9) ∧ cK E c = 3 := by
  obtain ⟨hkE, hkW⟩ := rK_c (E := E) hi
  rcases hl with ⟨rfl, rfl, rfl, rfl⟩ | ⟨rfl, rfl, rfl, rfl⟩
  · rw [sg_4] at h ⊢
    unfold rOp
    rw [hkE, hkW]
    by_cases h1 : cK E c = 3 ∧ cW E c = 42
    · rw [if_pos h1, if_neg (by omega), if_neg (by omega), if_pos h1]; exact ⟨rfl, rfl, by omega, h1.1⟩
    · rw [if_neg h1] at h ⊢
      by_cases h2 : cK E c = 3 ∧ cW E c = 47
      · rw [if_pos h2, if_neg (by omega), if_neg (by omega), if_neg h1, if_pos h2]; exact ⟨rfl, rfl, by omega, h2.1⟩
      · rw [if_neg h2] at h ⊢
        by_cases h3 : cK E c = 3 ∧ cW E c = 37
        · rw [if_pos h3, if_neg (by omega), if_neg (by omega), if_neg h1, if_neg h2, if_pos h3]; exact ⟨rfl, rfl, by omega, h3.1⟩
        · rw [if_neg h3] at h; exact absurd rfl h
  · rw [sg_5] at h ⊢
    unfold rOp
    rw [hkE, hkW]
    by_cases h1 : cK E c = 3 ∧ cW E c = 43
    · rw [if_pos h1, if_pos h1]; exact ⟨rfl, rfl, by omega, h1.1⟩
    · rw [if_neg h1] at h ⊢
      by_cases h2 : cK E c = 3 ∧ cW E c = 45
      · rw [if_pos h2, if_neg h1, if_pos h2]; exact ⟨rfl, rfl, by omega, h2.1⟩
      · rw [if_neg h2] at h; exact absurd rfl h
theorem sg_no {E : rdE} {c : cS} {s : rdS} (hi : c.i = s.i) (h4 : sgO E 4 7 c = -1) (h5 : sgO E 5 5 c = -1) : rOp E s = -1 := by
  obtain ⟨hkE, hkW⟩ := rK_c (E := E) hi
  rw [sg_4] at h4
  rw [sg_5] at h5
  unfold rOp
  rw [hkE, hkW]
  by_cases h1 : cK E c = 3 ∧ cW E c = 43
  · rw [if_pos h1] at h5; omega
  · rw [if_neg h1] at h5
    by_cases h2 : cK E c = 3 ∧ cW E c = 45
    · rw [if_pos h2] at h5; omega
    · by_cases h3 : cK E c = 3 ∧ cW E c = 42
      · rw [if_pos h3] at h4; omega
      · rw [if_neg h3] at h4
        by_cases h6 : cK E c = 3 ∧ cW E c = 47
        · rw [if_pos h6] at h4; omega
        · rw [if_neg h6] at h4
          by_cases h7 : cK E c = 3 ∧ cW E c = 37
          · rw [if_pos h7] at h4; omega
          · rw [if_neg h1, if_neg h2, if_neg h3, if_neg h6, if_neg h7]
theorem cad_i (op arg : Int) (c : cS) : (cad op arg c).i = c.i ∧ (cad op arg c).flt = c.flt := by unfold cad; split <;> exact ⟨rfl, rfl⟩
theorem sg_i {E : rdE} {t : Nat} {fo : Int} {c c2 : cS} (h : c.i = c2.i) : sgO E t fo c = sgO E t fo c2 := by unfold sgO cK cW; rw [h]
theorem arith_cmp {op : Int} (h : 5 ≤ op ∧ op ≤ 9) (r : rd_P) : innL ((op + 15, 0) :: r) = innL r ∧ cmpL ((op + 15, 0) :: r) = cmpL r := by
  constructor
  · rw [innL, if_neg (by show ¬ 31 ≤ op + 15; omega)]
  · rw [cmpL, if_pos (by show 20 ≤ op + 15 ∧ op + 15 ≤ 24; omega)]
/-- what an operand does -/
def OPD (E : rdE) (u ov b1 : Int) (g : cS → Bool × cS) (Pg : cS → Prop) : Prop := ∀ c s, SP E c s → s.op = ov → tpB s.pl < b1 → ((g c).1 = true → SOK E u b1 c s (g c).2 ∧ Pg (g c).2) ∧ ((g c).1 = false → SNO E u 1 s (g c).2.flt)
theorem sno_tr {E : rdE} {u t t2 : Int} {s s2 : rdS} {x : Int} (h1 : rch E u t s t2 s2) (h2 : SNO E u t2 s2 x) : SNO E u t s x := by
  obtain ⟨t', s', h3, h4⟩ := h2
  exact ⟨t', s', rch_tr h1 h3, h4⟩
theorem sim_lp {E : rdE} {u ov b b1 fo : Int} {t : Nat} {g : cS → Bool × cS} {Pg : cS → Prop} (hl : lvlB t fo b b1) (hg : OPD E u ov b1 g Pg) (hPg : ∀ c c2 : cS, c.i = c2.i → Pg c → Pg c2) {c : cS} {s : rdS} (hp : SP E c s) (hov : s.op = ov) (htp : tpB s.pl < b) : ∀ f r, E.tn - r.i < f → SOK E u b c s r → Pg r → ((bLp E t fo g f (true, r)).1 = true → SOK E u b c s (bLp E t fo g f (true, r)).2 ∧ Pg (bLp E t fo g f (true, r)).2 ∧ sgO E t fo (bLp E t fo g f (true, r)).2 = -1) ∧ ((bLp E t fo g f (true, r)).1 = false → SNO E u 1 s (bLp E t fo g f (true, r)).2.flt) := by
  intro f
  induction f with
  | zero => intro r hf; omega
  | succ f ih =>
    intro r hf hS hP
    have hb9 : bLp E t fo g (f + 1) (true, r) = if (true = true ∧ sgO E t fo r ≠ -1) then bLp E t fo g f ((g (cnx E r)).1, cad (sgO E t fo r) 0 (g (cnx E r)).2) else (true, r) := rfl
    rw [hb9]
    by_cases ho : sgO E t fo r = -1
    · rw [if_neg (fun z => z.2 ho)]
      exact ⟨fun _ => ⟨hS, hP, ho⟩, (fun z => by cases z)⟩
    · have hcond : (true = true ∧ sgO E t fo r ≠ -1) := ⟨rfl, ho⟩
      rw [if_pos hcond]
      obtain ⟨s', f1, n1, a1, ⟨a2, a3, a4, a5, a6⟩, ⟨a7, a8, a9⟩, ⟨b1', b2, b3⟩, ⟨b4, b5, b6⟩, ⟨b7, b8, b9⟩, ⟨c1, c2, c3, c4⟩, c5⟩ := id hS
      obtain ⟨o1, o2, o3, o4⟩ := sg_op (E := E) (c := r) (s := s') hl a2.symm ho
      obtain ⟨hpi, hpl, hpf, hpt, hps, hp5, hpab, hpn⟩ := id hp
      have hg2 := tkE_gt (tn := E.tn) (tb := E.tb) (i := r.i) c2 (show tkK E.tn E.tb r.i ≠ 0 by have : tkK E.tn E.tb r.i = 3 := o4; omega)
      -- the reference's step
      obtain ⟨s2, hs2⟩ : ∃ s2, s2 = nxS E (psh (sgO E t fo r + 15) 0 (stS b s')) := ⟨_, rfl⟩
      have hst : rch E u 3 s' 1 s2 := by
        have := rch_s (E := E) (u := u) a4
        unfold rSumV rSum at this
        rw [o1, if_pos (by omega), if_pos (by omega), o2] at this
        rw [hs2]; exact this
      have hbb : b ≤ b1 ∧ b < b1 := by rcases hl with z | z <;> omega
      have e2i : s2.i = tkE E.tn E.tb r.i := by rw [hs2]; show tkE E.tn E.tb s'.i = _; rw [a2]
      have e2p : s2.pl = (sgO E t fo r + 15, 0) :: s.pl := by rw [hs2]; show (sgO E t fo r + 15, 0) :: (stS b s').pl = _; rw [a9]
      have e2o : s2.o = (stS b s').o := by rw [hs2]; rfl
      have e2a : s2.a = (stS b s').a := by rw [hs2]; rfl
      have e2n : s2.nc = (stS b s').nc := by rw [hs2]; rfl
      have hp2 : SP E (cnx E r) s2 := ⟨e2i.symm, by rw [hs2]; exact a3.symm, by rw [hs2]; exact a4, hg2.2, by show r.sz ≤ tkE E.tn E.tb r.i; omega, c3, by show r.ab = 0 ∨ r.ab = 1; omega, hpn⟩
      have hop2 : s2.op = ov := by rw [hs2]; show s'.op = ov; rw [a5, hov]
      obtain ⟨g1, g2⟩ := hg (cnx E r) s2 hp2 hop2 (by rw [e2p]; show bnd_ (sgO E t fo r + 15) < b1; omega)
      have chain : rch E u 1 s 1 s2 := rch_tr a1 hst
      by_cases hr : (g (cnx E r)).1 = true
      · rw [hr]
        obtain ⟨q1, q2⟩ := g1 hr
        obtain ⟨s3, f2, n2, d1, ⟨d2, d3, d4, d5, d6⟩, ⟨d7, d8, d9⟩, ⟨e1, e2, e3⟩, ⟨e4, e5, e6⟩, ⟨e7, e8, e9⟩, ⟨k1, k2, k3, k4⟩, k5⟩ := id q1
        obtain ⟨G, hG⟩ : ∃ G, G = (g (cnx E r)).2 := ⟨_, rfl⟩
        rw [← hG] at q2 d2 d3 e4 e6 e7 e9 k1 k2 k3 k4 k5
        have hk1 : G.sz + tkE E.tn E.tb r.i ≤ r.sz + G.i := k1
        have hk4 : tkE E.tn E.tb r.i ≤ G.i := k4
        have he7 : r.pa + n2 = G.pa := e7
        have hGs : G.sz < 400 := by omega
        have hcd := cad_ok (op := sgO E t fo r) (arg := 0) hGs
        have arr := arith_cmp o3 s.pl
        have hfl : stS b s3 = (s3.i, s3.bad, s3.flt, s.pl, s3.op, s3.lv, (stS b1 s3).nc + 1, fup (stS b1 s3).o (stS b1 s3).nc (sgO E t fo r + 15), fup (stS b1 s3).a (stS b1 s3).nc 0) := by
          rw [← stS_stS hbb.1 s3]
          have hpl3 : (stS b1 s3).pl = (sgO E t fo r + 15, 0) :: s.pl := d9.trans e2p
          unfold stS at hpl3 ⊢
          show (s3.i, s3.bad, s3.flt, (stl b (stl b1 s3.pl s3.nc s3.o s3.a).1 (stl b1 s3.pl s3.nc s3.o s3.a).2.1 (stl b1 s3.pl s3.nc s3.o s3.a).2.2.1 (stl b1 s3.pl s3.nc s3.o s3.a).2.2.2).1, s3.op, s3.lv, (stl b (stl b1 s3.pl s3.nc s3.o s3.a).1 (stl b1 s3.pl s3.nc s3.o s3.a).2.1 (stl b1 s3.pl s3.nc s3.o s3.a).2.2.1 (stl b1 s3.pl s3.nc s3.o s3.a).2.2.2).2.1, (stl b (stl b1 s3.pl s3.nc s3.o s3.a).1 (stl b1 s3.pl s3.nc s3.o s3.a).2.1 (stl b1 s3.pl s3.nc s3.o s3.a).2.2.1 (stl b1 s3.pl s3.nc s3.o s3.a).2.2.2).2.2.1, (stl b (stl b1 s3.pl s3.nc s3.o s3.a).1 (stl b1 s3.pl s3.nc s3.o s3.a).2.1 (stl b1 s3.pl s3.nc s3.o s3.a).2.2.1 (stl b1 s3.pl s3.nc s3.o s3.a).2.2.2).2.2.2) = _
          rw [show (stl b1 s3.pl s3.nc s3.o s3.a).1 = (sgO E t fo r + 15, 0) :: s.pl from hpl3, stl_op (by show b ≤ bnd_ (sgO E t fo r + 15); omega) (by show sgO E t fo r + 15 ≠ 29 ∧ sgO E t fo r + 15 ≠ 30; omega), stl_no htp]
          rfl
        have hS2 : SOK E u b c s (cad (sgO E t fo r) 0 G) := by
          rw [hcd]
          refine ⟨s3, bn (sgO E t fo r) f1 f2, n1 + n2, rch_tr chain d1, ⟨d2, d3, d4, d5.trans (hop2.trans hov.symm), ?_⟩, ⟨?_, ?_, by rw [hfl]; rfl⟩, ?_, ?_, ?_, ?_, k5.trans c5⟩
          · rw [d6, hs2]; exact a6
          · rw [d7, e2p, arr.1]
          · rw [d8, e2p, arr.2]
          · rw [hfl]
            have en : (stS b s').nc ≤ (stS b1 s3).nc := by rw [← e2n]; exact e1
            refine ⟨by show s.nc ≤ (stS b1 s3).nc + 1; omega, fun j hj => ?_, ?_⟩
            · show fup (stS b1 s3).o (stS b1 s3).nc (sgO E t fo r + 15) j = s.o j ∧ fup (stS b1 s3).a (stS b1 s3).nc 0 j = s.a j
              rw [fup_n (by omega), fup_n (by omega)]
              obtain ⟨y1, y2⟩ := e2 j (by rw [e2n]; omega)
              obtain ⟨y3, y4⟩ := b2 j hj
              rw [y1, y2, e2o, e2a]
              exact ⟨y3, y4⟩
            · show rM E.od (fup (stS b1 s3).o (stS b1 s3).nc (sgO E t fo r + 15)) (fup (stS b1 s3).a (stS b1 s3).nc 0) s.nc ((stS b1 s3).nc + 1) (bn (sgO E t fo r) f1 f2)
              refine rM_bn (y := (stS b s').nc) (rM_fr b3 (fun j j1 j2 => ?_)) (rM_fr (x := (stS b s').nc) (o := (stS b1 s3).o) (a := (stS b1 s3).a) (by rw [← e2n]; exact e3) (fun j j1 j2 => ⟨fup_n (by omega), fup_n (by omega)⟩)) (by omega) (fup_s _ _ _)
              obtain ⟨y1, y2⟩ := e2 j (by rw [e2n]; exact j2)
              rw [fup_n (by omega), fup_n (by omega), y1, y2, e2o, e2a]
              exact ⟨rfl, rfl⟩
          · have hx1 := b4.1
            have hx2 : r.sz ≤ G.sz := e4.1
            refine ⟨cM_bn (y := r.sz) (cM_fr (cM_ab b4 (by show G.ab = r.ab ∨ r.ab = 0; rcases e9 with z | z; exact Or.inl z; exact Or.inr z.1)) (fun j j1 j2 => ?_)) (cM_fr (x := r.sz) (show cM E.od G.ab G.o G.a r.sz G.sz n2 f2 from e4) (fun j j1 j2 => ⟨fup_n (by omega), fup_n (by omega)⟩)) (by omega) (fup_s _ _ _) b8, fB_bn, fun j hj => ?_⟩
            · obtain ⟨y1, y2⟩ := e6 j j2
              show fup G.o G.sz (sgO E t fo r) j = r.o j ∧ fup G.a G.sz 0 j = r.a j
              rw [fup_n (by omega), fup_n (by omega)]
              exact ⟨y1, y2⟩
            · obtain ⟨y1, y2⟩ := e6 j (show j < r.sz by omega)
              obtain ⟨y3, y4⟩ := b6 j hj
              show fup G.o G.sz (sgO E t fo r) j = c.o j ∧ fup G.a G.sz 0 j = c.a j
              rw [fup_n (by omega), fup_n (by omega)]
              exact ⟨y1.trans y3, y2.trans y4⟩
          · refine ⟨by show c.pa + (n1 + n2) = G.pa; omega, by omega, ?_⟩
            show G.ab = c.ab ∨ (c.ab = 0 ∧ G.ab = 1)
            have e9' : G.ab = r.ab ∨ (r.ab = 0 ∧ G.ab = 1) := e9
            omega
          · exact ⟨by show G.sz + 1 + c.i ≤ c.sz + G.i; omega, k2, k3, by show c.i ≤ G.i; omega⟩
        have hi2 : (cad (sgO E t fo r) 0 G).i = G.i := (cad_i _ _ _).1
        have := ih (cad (sgO E t fo r) 0 G) (by rw [hi2]; omega) hS2 (hPg G _ hi2.symm q2)
        rw [← hG]
        exact this
      · have hr2 : (g (cnx E r)).1 = false := eq_false_of_ne_true hr
        rw [hr2, bLp_e (fun z => by cases z.1) f]
        refine ⟨(fun z => by cases z), fun _ => ?_⟩
        show SNO E u 1 s (cad (sgO E t fo r) 0 (g (cnx E r)).2).flt
        rw [(cad_i _ _ _).2]
        exact sno_tr chain (g2 hr2)

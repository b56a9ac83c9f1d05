/-! the two readers: terms, sums -/
theorem stl_stl {l1 l2 : Int} (h : l2 ≤ l1) : ∀ (pl : rd_P) (nc : Nat) (o a : Nat → Int), stl l2 (stl l1 pl nc o a).1 (stl l1 pl nc o a).2.1 (stl l1 pl nc o a).2.2.1 (stl l1 pl nc o a).2.2.2 = stl l2 pl nc o a := by
  intro pl
  induction pl with
  | nil => intro nc o a; rfl
  | cons e r ih =>
    intro nc o a
    by_cases h1 : l1 ≤ bnd_ e.1
    · by_cases h2 : e.1 = 29 ∨ e.1 = 30
      · rw [stl_jp h1 h2, stl_jp (Int.le_trans h h1) h2]; exact ih _ _ _
      · rw [stl_op h1 (by omega), stl_op (Int.le_trans h h1) (by omega)]; exact ih _ _ _
    · rw [show stl l1 (e :: r) nc o a = (e :: r, nc, o, a) from stl_no (by show bnd_ e.1 < l1; omega)]
theorem stS_stS {l1 l2 : Int} (h : l2 ≤ l1) (s : rdS) : stS l2 (stS l1 s) = stS l2 s := by
  have e := stl_stl h s.pl s.nc s.o s.a
  unfold stS
  show (s.i, s.bad, s.flt, (stl l2 (stl l1 s.pl s.nc s.o s.a).1 (stl l1 s.pl s.nc s.o s.a).2.1 (stl l1 s.pl s.nc s.o s.a).2.2.1 (stl l1 s.pl s.nc s.o s.a).2.2.2).1, s.op, s.lv, (stl l2 (stl l1 s.pl s.nc s.o s.a).1 (stl l1 s.pl s.nc s.o s.a).2.1 (stl l1 s.pl s.nc s.o s.a).2.2.1 (stl l1 s.pl s.nc s.o s.a).2.2.2).2.1, (stl l2 (stl l1 s.pl s.nc s.o s.a).1 (stl l1 s.pl s.nc s.o s.a).2.1 (stl l1 s.pl s.nc s.o s.a).2.2.1 (stl l1 s.pl s.nc s.o s.a).2.2.2).2.2.1, (stl l2 (stl l1 s.pl s.nc s.o s.a).1 (stl l1 s.pl s.nc s.o s.a).2.1 (stl l1 s.pl s.nc s.o s.a).2.2.1 (stl l1 s.pl s.nc s.o s.a).2.2.2).2.2.2) = _
  rw [e]
theorem sok_dn {E : rdE} {u b b1 : Int} {c : cS} {s : rdS} {r : cS} (h : SOK E u b1 c s r) (hb : b ≤ b1) (ht : tpB s.pl < b) : SOK E u b c s r := by
  obtain ⟨s', f, n, h1, h2, ⟨h3, h4, h5⟩, h6⟩ := h
  have e : stS b s' = stS b1 s' := by
    rw [← stS_stS hb s']
    exact stS_no (by rw [h5]; exact ht)
  exact ⟨s', f, n, h1, h2, ⟨h3, h4, by rw [e]; exact h5⟩, by rw [e]; exact h6⟩
theorem sg_5 (E : rdE) (c : cS) : sgO E 5 5 c = if cK E c = 3 ∧ cW E c = 43 then 5 else if cK E c = 3 ∧ cW E c = 45 then 6 else -1 := by
  unfold sgO
  rw [show (px_txt 5).length = 2 by decide +kernel]
  simp only [sgF]
  rw [show chr 5 0 = 43 by decide +kernel, show chr 5 (0 + 1) = 45 by decide +kernel]
  rfl
theorem sg_4 (E : rdE) (c : cS) : sgO E 4 7 c = if cK E c = 3 ∧ cW E c = 42 then 7 else if cK E c = 3 ∧ cW E c = 47 then 8 else if cK E c = 3 ∧ cW E c = 37 then 9 else -1 := by
  unfold sgO
  rw [show (px_txt 4).length = 3 by decide +kernel]
  simp only [sgF]
  rw [show chr 4 0 = 42 by decide +kernel, show chr 4 (0 + 1) = 47 by decide +kernel, show chr 4 (0 + 1 + 1) = 37 by decide +kernel]
  rfl
theorem sg_11 (E : rdE) (c : cS) : sgO E 11 10 c = if cK E c = 3 ∧ cW E c = 60 then 10 else if cK E c = 3 ∧ cW E c = 62 then 11 else if cK E c = 3 ∧ cW E c = 61 then 12 else -1 := by
  unfold sgO
  rw [show (px_txt 11).length = 3 by decide +kernel]
  simp only [sgF]
  rw [show chr 11 0 = 60 by decide +kernel, show chr 11 (0 + 1) = 62 by decide +kernel, show chr 11 (0 + 1 + 1) = 61 by decide +kernel]
  rfl
/-- the levels: terms are made of parts, sums of terms -/
def lvlB (t : Nat) (fo b b1 : Int) : Prop := (t = 4 ∧ fo = 7 ∧ b = 6 ∧ b1 = 7) ∨ (t = 5 ∧ fo = 5 ∧ b = 5 ∧ b1 = 6)
theorem sg_op {E : rdE} {c : cS} {s : rdS} {t : Nat} {fo b b1 : Int} (hl : lvlB t fo b b1) (hi : c.i = s.i) (h : sgO E t fo c ≠ -1) : rOp E s = sgO E t fo c + 15 ∧ bnd_ (sgO E t fo c + 15) = b ∧ (5 ≤ sgO E t fo c ∧ sgO E t fo c ≤ 9) ∧ cK E c = 3 := by
  obtain ⟨hkE, hkW⟩ := rK_c (E := E) hi
  rcases hl with ⟨rfl, rfl, rfl, rfl⟩ | ⟨rfl, rfl, rfl, rfl⟩
  · rw [sg_4] at h ⊢
    unfold rOp
    rw [hkE, hkW]
    by_cases h1 : cK E c = 3 ∧ cW E c = 42
    · rw [if_pos h1, if_neg (by omega), if_neg (by omega), if_pos h1]; exact ⟨rfl, rfl, by omega, h1.1⟩
    · rw [if_neg h1] at h ⊢
      by_cases h2 : cK E c = 3 ∧ cW E c = 47
      · rw [if_pos h2, if_neg (by omega), if_neg (by omega), if_neg h1, if_pos h2]; exact ⟨rfl, rfl, by omega, h2.1⟩
      · rw [if_neg h2] at h ⊢
        by_cases h3 : cK E c = 3 ∧ cW E c = 37
        · rw [if_pos h3, if_neg (by omega), if_neg (by omega), if_neg h1, if_neg h2, if_pos h3]; exact ⟨rfl, rfl, by omega, h3.1⟩
        · rw [if_neg h3] at h; exact absurd rfl h
  · rw [sg_5] at h ⊢
    unfold rOp
    rw [hkE, hkW]
    by_cases h1 : cK E c = 3 ∧ cW E c = 43
    · rw [if_pos h1, if_pos h1]; exact ⟨rfl, rfl, by omega, h1.1⟩
    · rw [if_neg h1] at h ⊢
      by_cases h2 : cK E c = 3 ∧ cW E c = 45
      · rw [if_pos h2, if_neg h1, if_pos h2]; exact ⟨rfl, rfl, by omega, h2.1⟩
      · rw [if_neg h2] at h; exact absurd rfl h
theorem sg_no {E : rdE} {c : cS} {s : rdS} (hi : c.i = s.i) (h4 : sgO E 4 7 c = -1) (h5 : sgO E 5 5 c = -1) : rOp E s = -1 := by
  obtain ⟨hkE, hkW⟩ := rK_c (E := E) hi
  rw [sg_4] at h4
  rw [sg_5] at h5
  unfold rOp
  rw [hkE, hkW]
  by_cases h1 : cK E c = 3 ∧ cW E c = 43
  · rw [if_pos h1] at h5; omega
  · rw [if_neg h1] at h5
    by_cases h2 : cK E c = 3 ∧ cW E c = 45
    · rw [if_pos h2] at h5; omega
    · by_cases h3 : cK E c = 3 ∧ cW E c = 42
      · rw [if_pos h3] at h4; omega
      · rw [if_neg h3] at h4
        by_cases h6 : cK E c = 3 ∧ cW E c = 47
        · rw [if_pos h6] at h4; omega
        · rw [if_neg h6] at h4
          by_cases h7 : cK E c = 3 ∧ cW E c = 37
          · rw [if_pos h7] at h4; omega
          · rw [if_neg h1, if_neg h2, if_neg h3, if_neg h6, if_neg h7]
theorem cad_i (op arg : Int) (c : cS) : (cad op arg c).i = c.i ∧ (cad op arg c).flt = c.flt := by unfold cad; split <;> exact ⟨rfl, rfl⟩
theorem sg_i {E : rdE} {t : Nat} {fo : Int} {c c2 : cS} (h : c.i = c2.i) : sgO E t fo c = sgO E t fo c2 := by unfold sgO cK cW; rw [h]
theorem arith_cmp {op : Int} (h : 5 ≤ op ∧ op ≤ 9) (r : rd_P) : innL ((op + 15, 0) :: r) = innL r ∧ cmpL ((op + 15, 0) :: r) = cmpL r := by
  constructor
  · rw [innL, if_neg (by show ¬ 31 ≤ op + 15; omega)]
  · rw [cmpL, if_pos (by show 20 ≤ op + 15 ∧ op + 15 ≤ 24; omega)]
/-- what an operand does -/
def OPD (E : rdE) (u ov b1 : Int) (g : cS → Bool × cS) (Pg : cS → Prop) : Prop := ∀ c s, SP E c s → s.op = ov → tpB s.pl < b1 → ((g c).1 = true → SOK E u b1 c s (g c).2 ∧ Pg (g c).2) ∧ ((g c).1 = false → SNO E u 1 s (g c).2.flt)
theorem sno_tr {E : rdE} {u t t2 : Int} {s s2 : rdS} {x : Int} (h1 : rch E u t s t2 s2) (h2 : SNO E u t2 s2 x) : SNO E u t s x := by
  obtain ⟨t', s', h3, h4⟩ := h2
  exact ⟨t', s', rch_tr h1 h3, h4⟩
theorem sim_lp {E : rdE} {u ov b b1 fo : Int} {t : Nat} {g : cS → Bool × cS} {Pg : cS → Prop} (hl : lvlB t fo b b1) (hg : OPD E u ov b1 g Pg) (hPg : ∀ c c2 : cS, c.i = c2.i → Pg c → Pg c2) {c : cS} {s : rdS} (hp : SP E c s) (hov : s.op = ov) (htp : tpB s.pl < b) : ∀ f r, E.tn - r.i < f → SOK E u b c s r → Pg r → ((bLp E t fo g f (true, r)).1 = true → SOK E u b c s (bLp E t fo g f (true, r)).2 ∧ Pg (bLp E t fo g f (true, r)).2 ∧ sgO E t fo (bLp E t fo g f (true, r)).2 = -1) ∧ ((bLp E t fo g f (true, r)).1 = false → SNO E u 1 s (bLp E t fo g f (true, r)).2.flt) := by
  intro f
  induction f with
  | zero => intro r hf; omega
  | succ f ih =>
    intro r hf hS hP
    have hb9 : bLp E t fo g (f + 1) (true, r) = if (true = true ∧ sgO E t fo r ≠ -1) then bLp E t fo g f ((g (cnx E r)).1, cad (sgO E t fo r) 0 (g (cnx E r)).2) else (true, r) := rfl
    rw [hb9]
    by_cases ho : sgO E t fo r = -1
    · rw [if_neg (fun z => z.2 ho)]
      exact ⟨fun _ => ⟨hS, hP, ho⟩, (fun z => by cases z)⟩
    · have hcond : (true = true ∧ sgO E t fo r ≠ -1) := ⟨rfl, ho⟩
      rw [if_pos hcond]
      obtain ⟨s', f1, n1, a1, ⟨a2, a3, a4, a5, a6⟩, ⟨a7, a8, a9⟩, ⟨b1', b2, b3⟩, ⟨b4, b5, b6⟩, ⟨b7, b8, b9⟩, ⟨c1, c2, c3, c4⟩, c5⟩ := id hS
      obtain ⟨o1, o2, o3, o4⟩ := sg_op (E := E) (c := r) (s := s') hl a2.symm ho
      obtain ⟨hpi, hpl, hpf, hpt, hps, hp5, hpab, hpn⟩ := id hp
      have hg2 := tkE_gt (tn := E.tn) (tb := E.tb) (i := r.i) c2 (show tkK E.tn E.tb r.i ≠ 0 by have : tkK E.tn E.tb r.i = 3 := o4; omega)
      -- the reference's step
      obtain ⟨s2, hs2⟩ : ∃ s2, s2 = nxS E (psh (sgO E t fo r + 15) 0 (stS b s')) := ⟨_, rfl⟩
      have hst : rch E u 3 s' 1 s2 := by
        have := rch_s (E := E) (u := u) a4
        unfold rSumV rSum at this
        rw [o1, if_pos (by omega), if_pos (by omega), o2] at this
        rw [hs2]; exact this
      have hbb : b ≤ b1 ∧ b < b1 := by rcases hl with z | z <;> omega
      have e2i : s2.i = tkE E.tn E.tb r.i := by rw [hs2]; show tkE E.tn E.tb s'.i = _; rw [a2]
      have e2p : s2.pl = (sgO E t fo r + 15, 0) :: s.pl := by rw [hs2]; show (sgO E t fo r + 15, 0) :: (stS b s').pl = _; rw [a9]
      have e2o : s2.o = (stS b s').o := by rw [hs2]; rfl
      have e2a : s2.a = (stS b s').a := by rw [hs2]; rfl
      have e2n : s2.nc = (stS b s').nc := by rw [hs2]; rfl
      have hp2 : SP E (cnx E r) s2 := ⟨e2i.symm, by rw [hs2]; exact a3.symm, by rw [hs2]; exact a4, hg2.2, by show r.sz ≤ tkE E.tn E.tb r.i; omega, c3, by show r.ab = 0 ∨ r.ab = 1; omega, hpn⟩
      have hop2 : s2.op = ov := by rw [hs2]; show s'.op = ov; rw [a5, hov]
      obtain ⟨g1, g2⟩ := hg (cnx E r) s2 hp2 hop2 (by rw [e2p]; show bnd_ (sgO E t fo r + 15) < b1; omega)
      have chain : rch E u 1 s 1 s2 := rch_tr a1 hst
      by_cases hr : (g (cnx E r)).1 = true
      · rw [hr]
        obtain ⟨q1, q2⟩ := g1 hr
        obtain ⟨s3, f2, n2, d1, ⟨d2, d3, d4, d5, d6⟩, ⟨d7, d8, d9⟩, ⟨e1, e2, e3⟩, ⟨e4, e5, e6⟩, ⟨e7, e8, e9⟩, ⟨k1, k2, k3, k4⟩, k5⟩ := id q1
        obtain ⟨G, hG⟩ : ∃ G, G = (g (cnx E r)).2 := ⟨_, rfl⟩
        rw [← hG] at q2 d2 d3 e4 e6 e7 e9 k1 k2 k3 k4 k5
        have hk1 : G.sz + tkE E.tn E.tb r.i ≤ r.sz + G.i := k1
        have hk4 : tkE E.tn E.tb r.i + 1 ≤ G.i := k4
        have he7 : r.pa + n2 = G.pa := e7
        have hGs : G.sz < 400 := by omega
        have hcd := cad_ok (op := sgO E t fo r) (arg := 0) hGs
        have arr := arith_cmp o3 s.pl
        have hfl : stS b s3 = (s3.i, s3.bad, s3.flt, s.pl, s3.op, s3.lv, (stS b1 s3).nc + 1, fup (stS b1 s3).o (stS b1 s3).nc (sgO E t fo r + 15), fup (stS b1 s3).a (stS b1 s3).nc 0) := by
          rw [← stS_stS hbb.1 s3]
          have hpl3 : (stS b1 s3).pl = (sgO E t fo r + 15, 0) :: s.pl := d9.trans e2p
          unfold stS at hpl3 ⊢
          show (s3.i, s3.bad, s3.flt, (stl b (stl b1 s3.pl s3.nc s3.o s3.a).1 (stl b1 s3.pl s3.nc s3.o s3.a).2.1 (stl b1 s3.pl s3.nc s3.o s3.a).2.2.1 (stl b1 s3.pl s3.nc s3.o s3.a).2.2.2).1, s3.op, s3.lv, (stl b (stl b1 s3.pl s3.nc s3.o s3.a).1 (stl b1 s3.pl s3.nc s3.o s3.a).2.1 (stl b1 s3.pl s3.nc s3.o s3.a).2.2.1 (stl b1 s3.pl s3.nc s3.o s3.a).2.2.2).2.1, (stl b (stl b1 s3.pl s3.nc s3.o s3.a).1 (stl b1 s3.pl s3.nc s3.o s3.a).2.1 (stl b1 s3.pl s3.nc s3.o s3.a).2.2.1 (stl b1 s3.pl s3.nc s3.o s3.a).2.2.2).2.2.1, (stl b (stl b1 s3.pl s3.nc s3.o s3.a).1 (stl b1 s3.pl s3.nc s3.o s3.a).2.1 (stl b1 s3.pl s3.nc s3.o s3.a).2.2.1 (stl b1 s3.pl s3.nc s3.o s3.a).2.2.2).2.2.2) = _
          rw [show (stl b1 s3.pl s3.nc s3.o s3.a).1 = (sgO E t fo r + 15, 0) :: s.pl from hpl3, stl_op (by show b ≤ bnd_ (sgO E t fo r + 15); omega) (by show sgO E t fo r + 15 ≠ 29 ∧ sgO E t fo r + 15 ≠ 30; omega), stl_no htp]
          rfl
        have hS2 : SOK E u b c s (cad (sgO E t fo r) 0 G) := by
          rw [hcd]
          refine ⟨s3, bn (sgO E t fo r) f1 f2, n1 + n2, rch_tr chain d1, ⟨d2, d3, d4, d5.trans (hop2.trans hov.symm), ?_⟩, ⟨?_, ?_, by rw [hfl]; rfl⟩, ?_, ?_, ?_, ?_, k5.trans c5⟩
          · rw [d6, hs2]; exact a6
          · rw [d7, e2p, arr.1]
          · rw [d8, e2p, arr.2]
          · rw [hfl]
            have en : (stS b s').nc ≤ (stS b1 s3).nc := by rw [← e2n]; exact e1
            refine ⟨by show s.nc ≤ (stS b1 s3).nc + 1; omega, fun j hj => ?_, ?_⟩
            · show fup (stS b1 s3).o (stS b1 s3).nc (sgO E t fo r + 15) j = s.o j ∧ fup (stS b1 s3).a (stS b1 s3).nc 0 j = s.a j
              rw [fup_n (by omega), fup_n (by omega)]
              obtain ⟨y1, y2⟩ := e2 j (by rw [e2n]; omega)
              obtain ⟨y3, y4⟩ := b2 j hj
              rw [y1, y2, e2o, e2a]
              exact ⟨y3, y4⟩
            · show rM E.od (fup (stS b1 s3).o (stS b1 s3).nc (sgO E t fo r + 15)) (fup (stS b1 s3).a (stS b1 s3).nc 0) s.nc ((stS b1 s3).nc + 1) (bn (sgO E t fo r) f1 f2)
              refine rM_bn (y := (stS b s').nc) (rM_fr b3 (fun j j1 j2 => ?_)) (rM_fr (x := (stS b s').nc) (o := (stS b1 s3).o) (a := (stS b1 s3).a) (by rw [← e2n]; exact e3) (fun j j1 j2 => ⟨fup_n (by omega), fup_n (by omega)⟩)) (by omega) (fup_s _ _ _)
              obtain ⟨y1, y2⟩ := e2 j (by rw [e2n]; exact j2)
              rw [fup_n (by omega), fup_n (by omega), y1, y2, e2o, e2a]
              exact ⟨rfl, rfl⟩
          · have hx1 := b4.1
            have hx2 : r.sz ≤ G.sz := e4.1
            refine ⟨cM_bn (y := r.sz) (cM_fr (cM_ab b4 (by show G.ab = r.ab ∨ r.ab = 0; rcases e9 with z | z; exact Or.inl z; exact Or.inr z.1)) (fun j j1 j2 => ?_)) (cM_fr (x := r.sz) (show cM E.od G.ab G.o G.a r.sz G.sz n2 f2 from e4) (fun j j1 j2 => ⟨fup_n (by omega), fup_n (by omega)⟩)) (by omega) (fup_s _ _ _) b8, fB_bn, fun j hj => ?_⟩
            · obtain ⟨y1, y2⟩ := e6 j j2
              show fup G.o G.sz (sgO E t fo r) j = r.o j ∧ fup G.a G.sz 0 j = r.a j
              rw [fup_n (by omega), fup_n (by omega)]
              exact ⟨y1, y2⟩
            · obtain ⟨y1, y2⟩ := e6 j (show j < r.sz by omega)
              obtain ⟨y3, y4⟩ := b6 j hj
              show fup G.o G.sz (sgO E t fo r) j = c.o j ∧ fup G.a G.sz 0 j = c.a j
              rw [fup_n (by omega), fup_n (by omega)]
              exact ⟨y1.trans y3, y2.trans y4⟩
          · refine ⟨by show c.pa + (n1 + n2) = G.pa; omega, by omega, ?_⟩
            show G.ab = c.ab ∨ (c.ab = 0 ∧ G.ab = 1)
            have e9' : G.ab = r.ab ∨ (r.ab = 0 ∧ G.ab = 1) := e9
            omega
          · exact ⟨by show G.sz + 1 + c.i ≤ c.sz + G.i; omega, k2, k3, by show c.i + 1 ≤ G.i; omega⟩
        have hi2 : (cad (sgO E t fo r) 0 G).i = G.i := (cad_i _ _ _).1
        have := ih (cad (sgO E t fo r) 0 G) (by rw [hi2]; omega) hS2 (hPg G _ hi2.symm q2)
        rw [← hG]
        exact this
      · have hr2 : (g (cnx E r)).1 = false := eq_false_of_ne_true hr
        rw [hr2, bLp_e (fun z => by cases z.1) f]
        refine ⟨(fun z => by cases z), fun _ => ?_⟩
        show SNO E u 1 s (cad (sgO E t fo r) 0 (g (cnx E r)).2).flt
        rw [(cad_i _ _ _).2]
        exact sno_tr chain (g2 hr2)
theorem stS_nx (E : rdE) (le : Int) (s : rdS) : stS le (nxS E s) = nxS E (stS le s) := rfl
theorem sim_part {E : rdE} {u ov : Int} {nest : Option (cS → Bool × cS)} (hE : hEw E) (hn : (nest = none ∧ 8 ≤ ov) ∨ (∃ f, nest = some f ∧ ov < 8 ∧ ∀ c s, SP E c s → s.op = ov + 1 → tpB s.pl < 5 → ((f c).1 = true → SOK E u 5 c s (f c).2 ∧ sgO E 4 7 (f c).2 = -1 ∧ sgO E 5 5 (f c).2 = -1) ∧ ((f c).1 = false → SNO E u 1 s (f c).2.flt))) : OPD E u ov 7 (cPrt E nest) (fun _ => True) := by
  intro c s hp hov _
  unfold cPrt
  by_cases hb : csg E 91 c
  · rw [if_pos hb]
    obtain ⟨hi, hlv, hf0, hit, hsz, hpa, hab, htn⟩ := id hp
    obtain ⟨hkE, hkW⟩ := rK_c (E := E) hi
    have hb2 : rK E s = 3 ∧ rW E s = 91 := by rw [hkE, hkW]; exact hb
    have hst : rch E u 1 s 1 (rOpen E 32 s) := by
      have := rch_p (E := E) (u := u) hf0
      unfold rPartV rPart at this
      rw [if_pos hb2, if_pos hb2] at this
      exact this
    rcases hn with ⟨h1, h2⟩ | ⟨f, h1, h2, IH⟩
    · rw [h1]
      refine ⟨(fun z => by cases z), fun _ => ?_⟩
      unfold rOpen at hst
      rw [if_neg (by omega)] at hst
      exact sno_fl hst (by show ((tkS E.tn E.tb c.i : Nat) : Int) = _; rw [hi])
    · rw [h1]
      unfold rOpen at hst
      rw [if_pos (by omega)] at hst
      have hg := tkE_gt (tn := E.tn) (tb := E.tb) (i := c.i) hit (show tkK E.tn E.tb c.i ≠ 0 by have : tkK E.tn E.tb c.i = 3 := hb.1; omega)
      obtain ⟨s1, hs1⟩ : ∃ s1, s1 = psh 32 0 (opn 1 (nxS E s)) := ⟨_, rfl⟩
      rw [← hs1] at hst
      have hp1 : SP E (cnx E c) s1 := ⟨by rw [hs1]; show tkE E.tn E.tb c.i = tkE E.tn E.tb s.i; rw [hi], by rw [hs1]; exact hlv, by rw [hs1]; exact hf0, hg.2, by show c.sz ≤ tkE E.tn E.tb c.i; omega, hpa, hab, htn⟩
      have hpl1 : s1.pl = (32, 0) :: s.pl := by rw [hs1]; rfl
      obtain ⟨i1, i2⟩ := IH (cnx E c) s1 hp1 (by rw [hs1]; show s.op + 1 = _; omega) (by rw [hpl1]; show bnd_ 32 < 5; decide)
      show ((if (f (cnx E c)).1 = true then (if csg E 93 (f (cnx E c)).2 then (true, cnx E (f (cnx E c)).2) else (false, cfl E (f (cnx E c)).2)) else (false, (f (cnx E c)).2) : Bool × cS).1 = true → SOK E u 7 c s (if (f (cnx E c)).1 = true then (if csg E 93 (f (cnx E c)).2 then (true, cnx E (f (cnx E c)).2) else (false, cfl E (f (cnx E c)).2)) else (false, (f (cnx E c)).2) : Bool × cS).2 ∧ True) ∧ ((if (f (cnx E c)).1 = true then (if csg E 93 (f (cnx E c)).2 then (true, cnx E (f (cnx E c)).2) else (false, cfl E (f (cnx E c)).2)) else (false, (f (cnx E c)).2) : Bool × cS).1 = false → SNO E u 1 s (if (f (cnx E c)).1 = true then (if csg E 93 (f (cnx E c)).2 then (true, cnx E (f (cnx E c)).2) else (false, cfl E (f (cnx E c)).2)) else (false, (f (cnx E c)).2) : Bool × cS).2.flt)
      by_cases hr : (f (cnx E c)).1 = true
      · rw [if_pos hr]
        obtain ⟨hS, h4, h5⟩ := i1 hr
        obtain ⟨R, hRR⟩ : ∃ R, R = (f (cnx E c)).2 := ⟨_, rfl⟩
        rw [← hRR] at hS h4 h5 ⊢
        obtain ⟨s2, f2, n2, d1, ⟨d2, d3, d4, d5, d6⟩, ⟨d7, d8, d9⟩, ⟨e1, e2, e3⟩, ⟨e4, e5, e6⟩, ⟨e7, e8, e9⟩, ⟨k1, k2, k3, k4⟩, k5⟩ := hS
        have hop := sg_no (E := E) (c := R) (s := s2) d2.symm h4 h5
        obtain ⟨hk2E, hk2W⟩ := rK_c (E := E) (c := R) (s := s2) d2.symm
        have hin : innL s2.pl = 32 := by rw [d7, hpl1]; rfl
        have hst2 := rch_s (E := E) (u := u) d4
        unfold rSumV rSum at hst2
        rw [if_neg (by omega), if_pos hin, if_neg (by omega), if_pos hin, hk2E, hk2W] at hst2
        have chain := rch_tr hst d1
        by_cases hcl : csg E 93 R
        · have hcl2 : cK E R = 3 ∧ cW E R = 93 := hcl
          rw [if_pos hcl]
          rw [if_pos hcl2] at hst2
          refine ⟨fun _ => ⟨?_, trivial⟩, (fun z => by cases z)⟩
          have hg2 := tkE_gt (tn := E.tn) (tb := E.tb) (i := R.i) k2 (show tkK E.tn E.tb R.i ≠ 0 by have : tkK E.tn E.tb R.i = 3 := hcl.1; omega)
          obtain ⟨s3, hs3⟩ : ∃ s3, s3 = opn (-1) (popS (stS 5 (nxS E s2))) := ⟨_, rfl⟩
          rw [← hs3] at hst2
          have h7 : stS 7 s3 = s3 := stS_no (by have := tpB_le s3.pl; omega)
          have e3p : s3.pl = s.pl := by rw [hs3]; show (stS 5 s2).pl.tail = s.pl; rw [d9, hpl1]; rfl
          have e3o : s3.o = (stS 5 s2).o ∧ s3.a = (stS 5 s2).a ∧ s3.nc = (stS 5 s2).nc := by rw [hs3]; exact ⟨rfl, rfl, rfl⟩
          have e1o : s1.o = s.o ∧ s1.a = s.a ∧ s1.nc = s.nc := by rw [hs1]; exact ⟨rfl, rfl, rfl⟩
          have hk1 : R.sz + tkE E.tn E.tb c.i ≤ c.sz + R.i := k1
          have hk4 : tkE E.tn E.tb c.i + 1 ≤ R.i := k4
          refine ⟨s3, f2, n2, rch_tr chain hst2, ⟨?_, ?_, ?_, ?_, ?_⟩, ⟨by rw [e3p], by rw [e3p], by rw [h7, e3p]⟩, ?_, ?_, ⟨e7, e8, e9⟩, ⟨by show R.sz + c.i ≤ c.sz + tkE E.tn E.tb R.i; omega, hg2.2, k3, by show c.i + 1 ≤ tkE E.tn E.tb R.i; omega⟩, k5⟩
          · rw [hs3]; show tkE E.tn E.tb s2.i = tkE E.tn E.tb R.i; rw [d2]
          · rw [hs3]; exact d3
          · rw [hs3]; exact d4
          · rw [hs3]; show s2.op + -1 = s.op; rw [d5, hs1]; show s.op + 1 + -1 = s.op; omega
          · rw [hs3]; show s2.bad = s.bad; rw [d6, hs1]; rfl
          · rw [h7, e3o.1, e3o.2.1, e3o.2.2]
            rw [e1o.1, e1o.2.1, e1o.2.2] at e2
            rw [e1o.2.2] at e1 e3
            exact ⟨e1, e2, e3⟩
          · exact ⟨e4, e5, e6⟩
        · have hcl2 : ¬ (cK E R = 3 ∧ cW E R = 93) := hcl
          rw [if_neg hcl]
          rw [if_neg hcl2] at hst2
          refine ⟨(fun z => by cases z), fun _ => ?_⟩
          exact sno_fl (rch_tr chain hst2) (by show ((tkS E.tn E.tb R.i : Nat) : Int) = _; rw [d2])
      · rw [if_neg hr]
        refine ⟨(fun z => by cases z), fun _ => ?_⟩
        exact sno_tr hst (i2 (eq_false_of_ne_true hr))
  · rw [if_neg hb]
    obtain ⟨h1, h2⟩ := sim_leaf (u := u) hE hp hb
    exact ⟨fun z => ⟨h1 z, trivial⟩, h2⟩
theorem sim_bl {E : rdE} {u ov b b1 fo : Int} {t : Nat} {g : cS → Bool × cS} {Pg : cS → Prop} (hl : lvlB t fo b b1) (hg : OPD E u ov b1 g Pg) (hPg : ∀ c c2 : cS, c.i = c2.i → Pg c → Pg c2) : OPD E u ov b (fun c => bLp E t fo g 400 (g c)) (fun r => Pg r ∧ sgO E t fo r = -1) := by
  intro c s hp hov htp
  have hbb : b ≤ b1 := by rcases hl with z | z <;> omega
  obtain ⟨h1, h2⟩ := hg c s hp hov (by omega)
  show ((bLp E t fo g 400 (g c)).1 = true → _) ∧ ((bLp E t fo g 400 (g c)).1 = false → _)
  by_cases hr : (g c).1 = true
  · obtain ⟨hS, hP⟩ := h1 hr
    have e : g c = (true, (g c).2) := by rw [← hr]
    have hS2 := sok_dn hS hbb htp
    obtain ⟨s', f1, n1, a1, a2, a3, b1', b4, b7, ⟨c1, c2, c3, c4⟩, c5⟩ := id hS
    have htn := hp.2.2.2.2.2.2.2
    have := sim_lp hl hg hPg hp hov htp 400 (g c).2 (by omega) hS2 hP
    rw [← e] at this
    exact ⟨fun z => ⟨(this.1 z).1, (this.1 z).2⟩, this.2⟩
  · have e : (g c).1 = false := eq_false_of_ne_true hr
    have e2 := bLp_e (E := E) (t := t) (fo := fo) (g := g) (r := g c) (fun z => hr z.1) 400
    refine ⟨fun z => absurd (by rw [e2] at z; exact z) hr, fun _ => ?_⟩
    show SNO E u 1 s (bLp E t fo g 400 (g c)).2.flt
    rw [e2]
    exact h2 e
theorem sim_sum {E : rdE} {u : Int} (hE : hEw E) : ∀ D : Nat, D ≤ 8 → OPD E u (8 - (D : Int)) 5 (cSm E D) (fun r => (True ∧ sgO E 4 7 r = -1) ∧ sgO E 5 5 r = -1) := by
  intro D
  have step : ∀ nest ov, OPD E u ov 7 (cPrt E nest) (fun _ => True) → OPD E u ov 5 (cSum E nest) (fun r => (True ∧ sgO E 4 7 r = -1) ∧ sgO E 5 5 r = -1) := by
    intro nest ov h
    have ht : OPD E u ov 6 (cTrm E nest) (fun r => True ∧ sgO E 4 7 r = -1) := sim_bl (Or.inl ⟨rfl, rfl, rfl, rfl⟩) h (fun _ _ _ _ => trivial)
    exact sim_bl (Or.inr ⟨rfl, rfl, rfl, rfl⟩) ht (fun c c2 hi hP => ⟨trivial, by rw [← sg_i hi]; exact hP.2⟩)
  induction D with
  | zero => intro _; exact step none _ (sim_part hE (Or.inl ⟨rfl, by omega⟩))
  | succ D ih =>
    intro hD
    have hi := ih (by omega)
    refine step (some (cSm E D)) _ (sim_part hE (Or.inr ⟨cSm E D, rfl, by omega, fun c s hp hov htp => ?_⟩))
    obtain ⟨h1, h2⟩ := hi c s hp (by omega) htp
    exact ⟨fun z => ⟨(h1 z).1, (h1 z).2.1.2, (h1 z).2.2⟩, h2⟩

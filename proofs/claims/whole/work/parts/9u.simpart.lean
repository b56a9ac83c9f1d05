/-! the two readers: parts -/
def rch (E : rdE) (u t : Int) (s : rdS) (t2 : Int) (s2 : rdS) : Prop := ∃ n, ∀ f, rRun E u (f + n) t s = rRun E u f t2 s2
section RCH
variable {E : rdE} {u t t2 t3 : Int} {s s2 s3 : rdS}
theorem rch_rf : rch E u t s t s := ⟨0, fun _ => rfl⟩
theorem rch_tr (h1 : rch E u t s t2 s2) (h2 : rch E u t2 s2 t3 s3) : rch E u t s t3 s3 := by
  obtain ⟨n, h1⟩ := h1
  obtain ⟨m, h2⟩ := h2
  exact ⟨m + n, fun f => by rw [← Nat.add_assoc, h1, h2]⟩
theorem rch_1 (hf : s.flt = 0) (ht : t ≠ 4) : rch E u t s (rStepV E u t s) (rStep E u t s) := ⟨1, fun f => by rw [rRun, if_neg (by omega)]⟩
theorem rch_p (hf : s.flt = 0) : rch E u 1 s (rPartV E s) (rPart E s) := rch_1 (t := 1) hf (by decide)
theorem rch_s (hf : s.flt = 0) : rch E u 3 s (rSumV E u s) (rSum E u s) := rch_1 (t := 3) hf (by decide)
theorem rch_t (hf : s.flt = 0) : rch E u 2 s (rTestV E s) (rTest E s) := rch_1 (t := 2) hf (by decide)
theorem rch_0 (hf : s.flt = 0) : rch E u 0 s (rPlainV E s) (rPlain E s) := rch_1 (t := 0) hf (by decide)
end RCH
def tpB : rd_P → Int
  | [] => -1
  | e :: _ => bnd_ e.1
theorem stl_no {le : Int} {pl : rd_P} {nc : Nat} {o a : Nat → Int} (h : tpB pl < le) : stl le pl nc o a = (pl, nc, o, a) := by
  cases pl with
  | nil => rfl
  | cons e r =>
    have h1 : bnd_ e.1 < le := h
    rw [stl, if_neg (by omega)]
theorem stl_op {le : Int} {e : Int × Int} {r : rd_P} {nc : Nat} {o a : Nat → Int} (h : le ≤ bnd_ e.1) (h2 : e.1 ≠ 29 ∧ e.1 ≠ 30) : stl le (e :: r) nc o a = stl le r (nc + 1) (fup o nc e.1) (fup a nc 0) := by
  rw [stl, if_pos h, if_neg (by omega)]
theorem stl_jp {le : Int} {e : Int × Int} {r : rd_P} {nc : Nat} {o a : Nat → Int} (h : le ≤ bnd_ e.1) (h2 : e.1 = 29 ∨ e.1 = 30) : stl le (e :: r) nc o a = stl le r nc o (fup a e.2.toNat ((nc : Nat) : Int)) := by
  rw [stl, if_pos h, if_pos h2]
theorem stS_no {le : Int} {s : rdS} (h : tpB s.pl < le) : stS le s = s := by
  unfold stS
  rw [stl_no h]
  rfl
theorem bnd_le (op : Int) : bnd_ op ≤ 6 := by unfold bnd_; repeat' split
                                              all_goals omega
theorem tpB_le (pl : rd_P) : tpB pl ≤ 6 := by
  cases pl with
  | nil => decide
  | cons e r => exact bnd_le e.1
/-- the class reads c on to r, the reference s on: both mean the same, once what binds as b or more is settled -/
def SOK (E : rdE) (u b : Int) (c : cS) (s : rdS) (r : cS) : Prop := ∃ (s' : rdS) (f : sp_E → Option Int) (n : Nat), rch E u 1 s 3 s' ∧ (s'.i = r.i ∧ s'.lv = r.pa ∧ s'.flt = 0 ∧ s'.op = s.op ∧ s'.bad = s.bad) ∧ (innL s'.pl = innL s.pl ∧ cmpL s'.pl = cmpL s.pl ∧ (stS b s').pl = s.pl) ∧ (s.nc ≤ (stS b s').nc ∧ (∀ j, j < s.nc → (stS b s').o j = s.o j ∧ (stS b s').a j = s.a j) ∧ rM E.od (stS b s').o (stS b s').a s.nc (stS b s').nc f) ∧ (cM E.od r.ab r.o r.a c.sz r.sz n f ∧ fB E.od f ∧ (∀ j, j < c.sz → r.o j = c.o j ∧ r.a j = c.a j)) ∧ (c.pa + n = r.pa ∧ 1 ≤ n ∧ (r.ab = c.ab ∨ (c.ab = 0 ∧ r.ab = 1))) ∧ (r.sz + c.i ≤ c.sz + r.i ∧ r.i ≤ E.tn ∧ r.pa ≤ 50 ∧ c.i + 1 ≤ r.i) ∧ r.flt = c.flt
def SNO (E : rdE) (u t : Int) (s : rdS) (x : Int) : Prop := ∃ t' s', rch E u t s t' s' ∧ s'.flt = 1 ∧ s'.bad = x
def SP (E : rdE) (c : cS) (s : rdS) : Prop := c.i = s.i ∧ c.pa = s.lv ∧ s.flt = 0 ∧ c.i ≤ E.tn ∧ c.sz ≤ c.i ∧ c.pa ≤ 50 ∧ (c.ab = 0 ∨ c.ab = 1) ∧ E.tn ≤ 400
def hEw (E : rdE) : Prop := (∀ k, k < 12 → E.f k = hw 3 k) ∧ (∀ k, k < 9 → E.g k = hw 2 k) ∧ (E.od = 0 ∨ E.od = 1)
theorem pAt_kk {f g : Nat → Int} {k0 : Nat} {w : Int} : ∀ n, (∀ k, k < n → f k = g k) → pAt f k0 w n = if kAt g k0 w n = -1 then -1 else kAt g k0 w n + 1 := by
  intro n
  induction n with
  | zero => intro _; rfl
  | succ n ih =>
    intro h
    simp only [pAt, kAt]
    rw [h n (by omega), ih (fun k hk => h k (by omega))]
    split
    · rw [if_neg (by omega)]
    · rfl
theorem tkE_gt {tn : Nat} {tb : Nat → Int} {i : Nat} (hi : i ≤ tn) (h : tkK tn tb i ≠ 0) : i < tkE tn tb i ∧ tkE tn tb i ≤ tn := by
  have h1 := tkS_lt h
  have h2 := tkS_b (tb := tb) hi
  have h3 := tkE_b (tb := tb) hi
  refine ⟨?_, h3.2⟩
  have h4 : tkS tn tb i < tkE tn tb i := by
    unfold tkE
    rw [if_pos h1]
    split
    · omega
    · have hr : rnn tn tb (tkd (tb (tkS tn tb i))) (tn - tkS tn tb i) (tkS tn tb i) = rnn tn tb (tkd (tb (tkS tn tb i))) (tn - (tkS tn tb i + 1)) (tkS tn tb i + 1) := rnn_s h1 rfl
      rw [hr]
      have := (rnn_b tn tb (tkd (tb (tkS tn tb i))) (tn - (tkS tn tb i + 1)) (tkS tn tb i + 1) (by omega)).1
      omega
  omega
/-- a leaf of both, laid -/
theorem sok_lf {E : rdE} {u : Int} {c : cS} {s : rdS} {i2 : Nat} {ab2 oc ac or ar : Int} {f : sp_E → Option Int} {s' : rdS} (hp : SP E c s) (hc : rch E u 1 s 3 s') (hs : s' = (i2, s.bad, 0, s.pl, s.op, s.lv + 1, s.nc + 1, fup s.o s.nc or, fup s.a s.nc ar)) (hl : c.pa < 50) (hi : c.i + 1 ≤ i2 ∧ i2 ≤ E.tn) (hab : ab2 = c.ab ∨ (c.ab = 0 ∧ ab2 = 1)) (hor : or < 20) (hrf : ∀ v, bndE E.od v → lfE E.od v or ar = f v ∧ f v ≠ none) (hcf : (oc = 0 ∧ ∀ v, f v = some ac) ∨ (oc = 1 ∧ ∃ j : Nat, ac = ((j : Nat) : Int) ∧ j < nvE E.od ∧ (j = 4 → E.od = 1 → ab2 = 1) ∧ ∀ v, f v = some (v j))) (hfb : fB E.od f) : SOK E u 7 c s (i2, c.pa + 1, c.sz + 1, fup c.o c.sz oc, fup c.a c.sz ac, ab2, c.flt) := by
  have h7 : stS 7 s' = s' := stS_no (by have := tpB_le s'.pl; omega)
  have hcl := hp.2.1
  subst hs
  refine ⟨_, f, 1, hc, ⟨rfl, by show s.lv + 1 = c.pa + 1; omega, rfl, rfl, rfl⟩, ⟨rfl, rfl, by rw [h7]; rfl⟩, ?_, ?_, ⟨rfl, Nat.le_refl _, hab⟩, ⟨by show c.sz + 1 + c.i ≤ c.sz + i2; omega, hi.2, by show c.pa + 1 ≤ 50; omega, by show c.i + 1 ≤ i2; omega⟩, rfl⟩
  · rw [h7]
    refine ⟨Nat.le_succ _, fun j hj => ⟨fup_n (by omega), fup_n (by omega)⟩, rM_lf ?_ ?_⟩
    · show fup s.o s.nc or s.nc < 20; rw [fup_s]; exact hor
    · intro v hv
      show lfE E.od v (fup s.o s.nc or s.nc) (fup s.a s.nc ar s.nc) = f v ∧ f v ≠ none
      rw [fup_s, fup_s]; exact hrf v hv
  · refine ⟨cM_lf ?_, hfb, fun j hj => ⟨fup_n (by omega), fup_n (by omega)⟩⟩
    show (fup c.o c.sz oc c.sz = 0 ∧ ∀ v, f v = some (fup c.a c.sz ac c.sz)) ∨ _
    rw [fup_s, fup_s]
    rcases hcf with z | ⟨z1, j, z2, z3⟩
    · exact Or.inl z
    · refine Or.inr ⟨by show fup c.o c.sz oc c.sz = 1; rw [fup_s]; exact z1, j, ?_, z3⟩
      show fup c.a c.sz ac c.sz = _
      rw [fup_s]; exact z2
theorem rK_c {E : rdE} {c : cS} {s : rdS} (h : c.i = s.i) : rK E s = cK E c ∧ rW E s = cW E c := by unfold rK rW cK cW; rw [h]; exact ⟨rfl, rfl⟩
theorem sno_fl {E : rdE} {u t t' : Int} {s s2 : rdS} {x : Int} (hc : rch E u t s t' (fl E s2)) (hx : x = ((tkS E.tn E.tb s2.i : Nat) : Int)) : SNO E u t s x := ⟨t', fl E s2, hc, rfl, hx.symm⟩
theorem rLf_ok {E : rdE} {s : rdS} (h : rAt E s ≠ -1 ∨ (rK E s = 2 ∧ rW E s ≤ 1000)) (hl : s.lv < 50) : rLf E s = (tkE E.tn E.tb s.i, s.bad, s.flt, s.pl, s.op, s.lv + 1, s.nc + 1, fup s.o s.nc (if rAt E s = -1 then 0 else rAt E s), fup s.a s.nc (if rK E s = 2 ∧ rW E s ≤ 1000 then rW E s else 0)) := by
  unfold rLf rLeaf
  rw [if_pos h, if_pos ⟨rfl, hl⟩]
  rfl
theorem rLf_no {E : rdE} {s : rdS} (h : ¬ (rAt E s ≠ -1 ∨ (rK E s = 2 ∧ rW E s ≤ 1000)) ∨ ¬ s.lv < 50) : rLf E s = fl E s := by
  unfold rLf rLeaf
  rw [if_neg]
  rintro ⟨h1, h2⟩
  rcases h with h | h
  · rw [if_neg h] at h1; cases h1
  · exact h h2
theorem rAt_n {E : rdE} {s : rdS} (h : rK E s ≠ 1) : rAt E s = -1 := by
  rcases (show rAt E s = -1 ∨ rAt E s ≠ -1 by omega) with z | z
  · exact z
  · exact absurd (rAt_K z) h
theorem cS_eta (c : cS) : c = (c.i, c.pa, c.sz, c.o, c.a, c.ab, c.flt) := rfl
theorem cad_ok {op arg : Int} {c : cS} (h : c.sz < 400) : cad op arg c = (c.i, c.pa, c.sz + 1, fup c.o c.sz op, fup c.a c.sz arg, c.ab, c.flt) := by unfold cad; rw [if_pos h]
theorem nvE_b (od : Int) : 12 ≤ nvE od := by unfold nvE; split <;> omega
theorem sim_leaf {E : rdE} {u : Int} {c : cS} {s : rdS} (hE : hEw E) (hp : SP E c s) (hnb : ¬ csg E 91 c) : ((cLf E c).1 = true → SOK E u 7 c s (cLf E c).2) ∧ ((cLf E c).1 = false → SNO E u 1 s (cLf E c).2.flt) := by
  obtain ⟨hi, hlv, hf0, hit, hsz, hpa, hab, htn⟩ := id hp
  obtain ⟨hkE, hkW⟩ := rK_c (E := E) hi
  have hnb2 : ¬ (rK E s = 3 ∧ rW E s = 91) := by rw [hkE, hkW]; exact hnb
  have hV : rPartV E s = 3 := by unfold rPartV; rw [if_neg hnb2]
  have hst : rch E u 1 s 3 (rPart E s) := by have := rch_p (E := E) (u := u) hf0; rw [hV] at this; exact this
  have hflT : ∀ x : cS, x.i = c.i → (cfl E x).flt = ((tkS E.tn E.tb s.i : Nat) : Int) := fun x hx => by show ((tkS E.tn E.tb x.i : Nat) : Int) = _; rw [hx, hi]
  have no : rLf E s = fl E s → SNO E u 1 s ((tkS E.tn E.tb s.i : Nat) : Int) := by
    intro h
    refine sno_fl (t' := 3) (s2 := s) ?_ rfl
    have hr : rPart E s = fl E s := by
      unfold rPart
      rw [if_neg hnb2, if_neg, h]
      rintro ⟨_, _, z⟩
      rw [h] at z
      cases z
    rw [← hr]; exact hst
  unfold cLf
  by_cases h50 : 50 ≤ c.pa
  · rw [if_pos h50]
    refine ⟨(fun z => by cases z), fun _ => ?_⟩
    rw [show ((false, cfl E c) : Bool × cS).2.flt = ((tkS E.tn E.tb s.i : Nat) : Int) from hflT c rfl]
    exact no (rLf_no (Or.inr (by omega)))
  · rw [if_neg h50]
    have hl : s.lv < 50 := by omega
    by_cases hnum : cK E c = 2 ∧ cW E c ≤ 1000
    · rw [if_pos hnum]
      refine ⟨fun _ => ?_, fun z => by cases z⟩
      have hd : rK E s = 2 ∧ rW E s ≤ 1000 := by rw [hkE, hkW]; exact hnum
      have hA : rAt E s = -1 := rAt_n (by omega)
      have hg := tkE_gt (tb := E.tb) hit (show tkK E.tn E.tb c.i ≠ 0 by have : tkK E.tn E.tb c.i = 2 := hnum.1; omega)
      have hw0 : 0 ≤ cW E c := tk_dig hnum.1
      have hL := rLf_ok (Or.inr hd) hl
      rw [if_pos hA, if_pos hd] at hL
      have hr : rPart E s = rLf E s := by
        unfold rPart
        rw [if_neg hnb2, if_neg]
        rintro ⟨_, z, _⟩
        omega
      rw [hr, hL, hf0] at hst
      have hsz4 : (cpi c).sz < 400 := by show c.sz < 400; omega
      rw [show ((true, cnx E (cad 0 (cW E c) (cpi c))) : Bool × cS).2 = (tkE E.tn E.tb c.i, c.pa + 1, c.sz + 1, fup c.o c.sz 0, fup c.a c.sz (cW E c), c.ab, c.flt) by rw [cad_ok hsz4]; rfl]
      refine sok_lf hp hst (by rw [hi]) (by omega) (by omega) (Or.inl rfl) (by decide) (f := fun _ => some (cW E c)) ?_ (Or.inl ⟨rfl, fun _ => rfl⟩) ?_
      · intro v hv
        refine ⟨?_, by simp⟩
        rw [hkW]
        unfold lfE
        split
        · unfold lfO; rw [if_pos rfl, if_pos (by omega)]
        · unfold lfL2; rw [if_pos rfl, if_pos (by omega)]
      · intro v z hv hz
        have := Option.some.inj hz
        omega
    · rw [if_neg hnum]
      have hdn : ¬ (rK E s = 2 ∧ rW E s ≤ 1000) := by rw [hkE, hkW]; exact hnum
      have hK1 : ∀ (f : Nat → Int) (n : Nat), kAt f (cK E c) (cW E c) n ≠ -1 → cK E c = 1 := by
        intro f n
        induction n with
        | zero => intro h; exact absurd rfl h
        | succ n ih =>
          intro h
          rw [kAt] at h
          split at h
          · rename_i hc; exact hc.1
          · exact ih h
      rcases hE.2.2 with hod | hod
      · rw [if_neg (by omega)]
        have hAt : rAt E s = if kAt (hw 3) (cK E c) (cW E c) 12 = -1 then -1 else kAt (hw 3) (cK E c) (cW E c) 12 + 1 := by
          unfold rAt
          rw [if_neg (by omega), pAt_kk 12 hE.1, hkE, hkW]
        have hkb := kAt_b (hw 3) (cK E c) (cW E c) 12
        have hrP : rPart E s = rLf E s := by
          unfold rPart
          rw [if_neg hnb2, if_neg]
          rintro ⟨z, _, _⟩
          omega
        unfold cLw
        show (((if kAt (hw 3) (cK E c) (cW E c) 12 = -1 then (false, cfl E (cpi c)) else (true, cnx E (cad 1 (kAt (hw 3) (cK E c) (cW E c) 12) (cpi c)))) : Bool × cS).1 = true → _) ∧ _
        by_cases hk : kAt (hw 3) (cK E c) (cW E c) 12 = -1
        · rw [if_pos hk] at hAt
          have e : ((if kAt (hw 3) (cK E (cpi c)) (cW E (cpi c)) 12 = -1 then (false, cfl E (cpi c)) else (true, cnx E (cad 1 (kAt (hw 3) (cK E (cpi c)) (cW E (cpi c)) 12) (cpi c)))) : Bool × cS) = (false, cfl E (cpi c)) := if_pos hk
          rw [e]
          refine ⟨fun z => ?_, fun _ => ?_⟩
          · rw [if_pos hk] at z; cases z
          · rw [show ((false, cfl E (cpi c)) : Bool × cS).2.flt = ((tkS E.tn E.tb s.i : Nat) : Int) from hflT (cpi c) rfl]
            exact no (rLf_no (Or.inl (by omega)))
        · rw [if_neg hk] at hAt
          have e : ((if kAt (hw 3) (cK E (cpi c)) (cW E (cpi c)) 12 = -1 then (false, cfl E (cpi c)) else (true, cnx E (cad 1 (kAt (hw 3) (cK E (cpi c)) (cW E (cpi c)) 12) (cpi c)))) : Bool × cS) = (true, cnx E (cad 1 (kAt (hw 3) (cK E c) (cW E c) 12) (cpi c))) := if_neg hk
          rw [e]
          refine ⟨fun _ => ?_, fun z => by cases z⟩
          have h1 : tkK E.tn E.tb c.i = 1 := hK1 _ _ hk
          have hg := tkE_gt (tb := E.tb) hit (by omega)
          have hL := rLf_ok (E := E) (s := s) (Or.inl (by omega)) hl
          rw [if_neg (show ¬ rAt E s = -1 by omega), if_neg hdn] at hL
          rw [hrP, hL, hf0] at hst
          have hsz4 : (cpi c).sz < 400 := by show c.sz < 400; omega
          obtain ⟨k, hkk⟩ : ∃ k : Nat, kAt (hw 3) (cK E c) (cW E c) 12 = ((k : Nat) : Int) := ⟨(kAt (hw 3) (cK E c) (cW E c) 12).toNat, by omega⟩
          rw [hkk] at hAt hkb
          rw [show ((true, cnx E (cad 1 (kAt (hw 3) (cK E c) (cW E c) 12) (cpi c))) : Bool × cS).2 = (tkE E.tn E.tb c.i, c.pa + 1, c.sz + 1, fup c.o c.sz 1, fup c.a c.sz ((k : Nat) : Int), c.ab, c.flt) by rw [cad_ok hsz4, hkk]; rfl]
          have hnv : nvE E.od = 12 := by unfold nvE; rw [if_neg (by omega)]
          refine sok_lf hp hst (by rw [hi]) (by omega) (by omega) (Or.inl rfl) (by omega) (f := fun v => some (v k)) ?_ (Or.inr ⟨rfl, k, rfl, by rw [hnv]; omega, fun _ z => by omega, fun _ => rfl⟩) ?_
          · intro v hv
            refine ⟨?_, by simp⟩
            unfold lfE lfL2
            rw [if_neg (by omega), if_neg (by omega), if_pos (by omega), hAt]
            congr 2; omega
          · intro v z hv hz
            have := Option.some.inj hz
            rw [← this]
            exact hv k (by rw [hnv]; omega)
      · rw [if_pos hod]
        have hAt : rAt E s = if cOk E c = -1 then -1 else cOk E c + 1 := by
          unfold rAt cOk
          rw [if_pos hod, pAt_kk 9 hE.2.1, hkE, hkW]
        have hkb : -1 ≤ cOk E c ∧ cOk E c < 9 := kAt_b (hw 2) (cK E c) (cW E c) 9
        have hnv : nvE E.od = 59 := by unfold nvE; rw [if_pos hod]
        have hOk : cOk E (cpi c) = cOk E c := rfl
        unfold cOw
        rw [hOk]
        by_cases hk : cOk E c = -1
        · rw [if_pos hk] at hAt
          rw [if_pos hk]
          refine ⟨(fun z => by cases z), fun _ => ?_⟩
          rw [show ((false, cfl E (cpi c)) : Bool × cS).2.flt = ((tkS E.tn E.tb s.i : Nat) : Int) from hflT (cpi c) rfl]
          exact no (rLf_no (Or.inl (by omega)))
        · rw [if_neg hk] at hAt
          rw [if_neg hk]
          have h1 : tkK E.tn E.tb c.i = 1 := hK1 _ _ hk
          have hg := tkE_gt (tb := E.tb) hit (by omega)
          have hL := rLf_ok (E := E) (s := s) (Or.inl (by omega)) hl
          rw [if_neg (show ¬ rAt E s = -1 by omega), if_neg hdn] at hL
          obtain ⟨k, hkk⟩ : ∃ k : Nat, cOk E c = ((k : Nat) : Int) := ⟨(cOk E c).toNat, by omega⟩
          rw [hkk] at hAt hkb
          rw [hkk]
          by_cases hk5 : ((k : Nat) : Int) < 5
          · rw [if_pos hk5]
            refine ⟨fun _ => ?_, (fun z => by cases z)⟩
            have hrP : rPart E s = rLf E s := by
              unfold rPart
              rw [if_neg hnb2, if_neg]
              rintro ⟨_, z, _⟩
              omega
            rw [hrP, hL, hf0] at hst
            have hsz4 : (cbk ((k : Nat) : Int) (cnx E (cpi c))).sz < 400 := by show c.sz < 400; omega
            rw [show ((true, cad 1 ((k : Nat) : Int) (cbk ((k : Nat) : Int) (cnx E (cpi c)))) : Bool × cS).2 = (tkE E.tn E.tb c.i, c.pa + 1, c.sz + 1, fup c.o c.sz 1, fup c.a c.sz ((k : Nat) : Int), (if c.ab = 1 ∨ ((k : Nat) : Int) = 4 then 1 else 0), c.flt) by rw [cad_ok hsz4]; rfl]
            refine sok_lf hp hst (by rw [hi]) (by omega) (by omega) ?_ (by omega) (f := fun v => some (v k)) ?_ (Or.inr ⟨rfl, k, rfl, by rw [hnv]; omega, fun z _ => by rw [if_pos (Or.inr (by omega))], fun _ => rfl⟩) ?_
            · split
              · omega
              · omega
            · intro v hv
              refine ⟨?_, by simp⟩
              unfold lfE lfO
              rw [if_pos hod, if_neg (by omega), if_pos (by omega), hAt]
              congr 2; omega
            · intro v z hv hz
              have := Option.some.inj hz
              rw [← this]
              exact hv k (by rw [hnv]; omega)
          · rw [if_neg hk5]
            have hi1 : (rLf E s).i = (cnx E (cpi c)).i := by rw [hL]; show tkE E.tn E.tb s.i = tkE E.tn E.tb c.i; rw [hi]
            have hK2 : rK E (rLf E s) = cK E (cnx E (cpi c)) ∧ rW E (rLf E s) = cW E (cnx E (cpi c)) := by unfold rK rW cK cW; rw [hi1]; exact ⟨rfl, rfl⟩
            have hlim : (if rAt E s = 9 then (5 : Int) else 15) = (if ((k : Nat) : Int) = 8 then 5 else 15) := by
              by_cases z : ((k : Nat) : Int) = 8
              · rw [if_pos z, if_pos (by omega)]
              · rw [if_neg z, if_neg (by omega)]
            have hrP : rPart E s = ast (wrp (rW E (rLf E s))) (rNb E 0 (if ((k : Nat) : Int) = 8 then 5 else 15) (rLf E s)) := by
              unfold rPart
              rw [if_neg hnb2, if_pos ⟨hod, by omega, by rw [hL]; exact hf0⟩, hlim]
            by_cases hn2 : cK E (cnx E (cpi c)) = 2 ∧ cW E (cnx E (cpi c)) ≤ (if ((k : Nat) : Int) = 8 then 5 else 15)
            · rw [if_pos hn2]
              refine ⟨fun _ => ?_, (fun z => by cases z)⟩
              have hw0 : 0 ≤ cW E (cnx E (cpi c)) := tk_dig hn2.1
              obtain ⟨W, hW⟩ : ∃ W : Nat, cW E (cnx E (cpi c)) = ((W : Nat) : Int) := ⟨(cW E (cnx E (cpi c))).toNat, by omega⟩
              have hwb : ((W : Nat) : Int) ≤ (if ((k : Nat) : Int) = 8 then 5 else 15) := by rw [← hW]; exact hn2.2
              have hNb : rNb E 0 (if ((k : Nat) : Int) = 8 then 5 else 15) (rLf E s) = nxS E (rLf E s) := by
                unfold rNb
                rw [hK2.1, hK2.2, if_pos ⟨hn2.1, hw0, hn2.2⟩]
              have hg2 := tkE_gt (tn := E.tn) (tb := E.tb) (i := tkE E.tn E.tb c.i) hg.2 (show tkK E.tn E.tb (tkE E.tn E.tb c.i) ≠ 0 by have : tkK E.tn E.tb (tkE E.tn E.tb c.i) = 2 := hn2.1; omega)
              have hwr : wrp (rW E (rLf E s)) = ((W : Nat) : Int) := by
                rw [hK2.2, hW]
                unfold wrp
                split at hwb <;> omega
              rw [hrP, hNb, hwr, hL, hf0] at hst
              have hsz4 : (cnx E (cpi c)).sz < 400 := by show c.sz < 400; omega
              rw [hW]
              rw [show ((true, cnx E (cad 1 (if ((k : Nat) : Int) = 8 then 53 + ((W : Nat) : Int) else 5 + 3 * ((W : Nat) : Int) + (((k : Nat) : Int) - 5)) (cnx E (cpi c)))) : Bool × cS).2 = (tkE E.tn E.tb (tkE E.tn E.tb c.i), c.pa + 1, c.sz + 1, fup c.o c.sz 1, fup c.a c.sz (if ((k : Nat) : Int) = 8 then 53 + ((W : Nat) : Int) else 5 + 3 * ((W : Nat) : Int) + (((k : Nat) : Int) - 5)), c.ab, c.flt) by rw [cad_ok hsz4]; rfl]
              obtain ⟨j, hj⟩ : ∃ j : Nat, (if ((k : Nat) : Int) = 8 then 53 + ((W : Nat) : Int) else 5 + 3 * ((W : Nat) : Int) + (((k : Nat) : Int) - 5)) = ((j : Nat) : Int) := by
                split
                · exact ⟨53 + W, by omega⟩
                · exact ⟨5 + 3 * W + (k - 5), by omega⟩
              rw [hj]
              have hj59 : j < 59 := by
                split at hj
                · rename_i z; rw [if_pos z] at hwb; omega
                · rename_i z; rw [if_neg z] at hwb; omega
              refine sok_lf (or := rAt E s) (ar := ((W : Nat) : Int)) hp hst ?_ (by omega) (by omega) (Or.inl rfl) (by omega) (f := fun v => some (v j)) ?_ (Or.inr ⟨rfl, j, rfl, by rw [hnv]; exact hj59, fun z _ => by exfalso; split at hj <;> omega, fun _ => rfl⟩) ?_
              · show (tkE E.tn E.tb (tkE E.tn E.tb s.i), s.bad, 0, s.pl, s.op, s.lv + 1, s.nc + 1, fup s.o s.nc (rAt E s), fup (fup s.a s.nc 0) (s.nc + 1 - 1) ((W : Nat) : Int)) = _
                rw [hi, Nat.add_sub_cancel]
                congr 8
                funext t
                unfold fup
                split <;> rfl
              · intro v hv
                refine ⟨?_, by simp⟩
                unfold lfE lfO
                rw [if_pos hod, if_neg (by omega), if_neg (by omega)]
                by_cases z : ((k : Nat) : Int) = 8
                · rw [if_pos z] at hj hwb
                  rw [if_neg (by omega), if_pos (by omega)]
                  congr 2; omega
                · rw [if_neg z] at hj hwb
                  rw [if_pos (by omega), hAt]
                  congr 2; omega
              · intro v z hv hz
                have := Option.some.inj hz
                rw [← this]
                exact hv j (by rw [hnv]; exact hj59)
            · rw [if_neg hn2]
              refine ⟨(fun z => by cases z), fun _ => ?_⟩
              have hNb : rNb E 0 (if ((k : Nat) : Int) = 8 then 5 else 15) (rLf E s) = fl E (rLf E s) := by
                unfold rNb
                rw [hK2.1, hK2.2, if_neg (fun z => hn2 ⟨z.1, z.2.2⟩)]
              rw [hrP, hNb] at hst
              refine ⟨3, _, hst, rfl, ?_⟩
              show ((tkS E.tn E.tb (rLf E s).i : Nat) : Int) = ((tkS E.tn E.tb (cnx E (cpi c)).i : Nat) : Int)
              rw [hi1]

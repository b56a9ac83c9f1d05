/-! the two readers: plain tests -/
def TOK (E : rdE) (b : Int) (c : cS) (s : rdS) (r : cS) : Prop := ∃ (s' : rdS) (f : sp_E → Option Int) (n : Nat), rch E 1 0 s 2 s' ∧ (s'.i = r.i ∧ s'.lv = r.pa ∧ s'.flt = 0 ∧ s'.op = s.op ∧ s'.bad = s.bad) ∧ (innL s'.pl = innL s.pl ∧ (stS b s').pl = s.pl) ∧ (s.nc ≤ (stS b s').nc ∧ (∀ j, j < s.nc → (stS b s').o j = s.o j ∧ (stS b s').a j = s.a j) ∧ rM E.od (stS b s').o (stS b s').a s.nc (stS b s').nc f) ∧ (cM E.od r.ab r.o r.a c.sz r.sz n f ∧ fT E.od f ∧ (∀ j, j < c.sz → r.o j = c.o j ∧ r.a j = c.a j)) ∧ (c.pa + n = r.pa ∧ 1 ≤ n ∧ (r.ab = c.ab ∨ (c.ab = 0 ∧ r.ab = 1))) ∧ (r.sz + c.i ≤ c.sz + r.i ∧ r.i ≤ E.tn ∧ r.pa ≤ 50 ∧ c.i + 1 ≤ r.i) ∧ r.flt = c.flt
def OPT (E : rdE) (ov b1 : Int) (g : cS → Bool × cS) (Pg : cS → Prop) : Prop := ∀ c s, SP E c s → 1 ≤ c.i → s.op = ov → tpB s.pl < b1 → innL s.pl ≠ 32 → ((g c).1 = true → TOK E b1 c s (g c).2 ∧ Pg (g c).2) ∧ ((g c).1 = false → SNO E 1 0 s (g c).2.flt)
def npl : Nat → rd_P → rd_P
  | 0, pl => pl
  | k + 1, pl => (28, 0) :: npl k pl
theorem npl_i (k : Nat) (pl : rd_P) : innL (npl k pl) = innL pl := by
  induction k with
  | zero => rfl
  | succ k ih => rw [npl, innL, if_neg (by decide)]; exact ih
theorem low_c {pl : rd_P} (h : tpB pl < 3) : cmpL pl = false := by
  cases pl with
  | nil => rfl
  | cons e r =>
    have h1 : bnd_ e.1 < 3 := h
    have h2 : 29 ≤ e.1 := by
      unfold bnd_ at h1
      split at h1
      · omega
      · split at h1
        · omega
        · split at h1
          · omega
          · split at h1
            · omega
            · split at h1
              · omega
              · split at h1 <;> omega
    rw [cmpL, if_neg (by omega)]
    exact decide_eq_false (by omega)
theorem npl_c {k : Nat} {pl : rd_P} (h : tpB pl < 3) : cmpL (npl k pl) = false := by
  cases k with
  | zero => exact low_c h
  | succ k => rw [npl, cmpL, if_neg (by decide)]; rfl
def ntk : Nat → (sp_E → Option Int) → sp_E → Option Int
  | 0, f => f
  | k + 1, f => ntk k (nt f)
theorem ntk_2 {k : Nat} {f : sp_E → Option Int} : ntk (k + 2) f = ntk k f := by
  show ntk k (nt (nt f)) = ntk k f
  rw [nt_nt (od := 0)]
theorem ntk_p : ∀ (k : Nat) (f : sp_E → Option Int), ntk k f = if k % 2 = 1 then nt f else f := by
  intro k
  induction k using Nat.strongRecOn with
  | _ k ih =>
    intro f
    match k with
    | 0 => rfl
    | 1 => rfl
    | k + 2 =>
      rw [ntk_2, ih k (by omega)]
      by_cases h : k % 2 = 1
      · rw [if_pos h, if_pos (by omega)]
      · rw [if_neg h, if_neg (by omega)]
theorem fT_ntk {od : Int} : ∀ (k : Nat) (f : sp_E → Option Int), fT od f → fT od (ntk k f) := by
  intro k
  induction k with
  | zero => intro f h; exact h
  | succ k ih => intro f h; exact ih _ (fT_nt h)
theorem stl_n {od : Int} {pl : rd_P} (hp : tpB pl < 3) {x : Nat} : ∀ (k nc : Nat) (o a : Nat → Int) (f : sp_E → Option Int), x ≤ nc → rM od o a x nc f → (stl 3 (npl k pl) nc o a).1 = pl ∧ (stl 3 (npl k pl) nc o a).2.1 = nc + k ∧ (∀ j, j < nc → (stl 3 (npl k pl) nc o a).2.2.1 j = o j ∧ (stl 3 (npl k pl) nc o a).2.2.2 j = a j) ∧ rM od (stl 3 (npl k pl) nc o a).2.2.1 (stl 3 (npl k pl) nc o a).2.2.2 x (nc + k) (ntk k f) := by
  intro k
  induction k with
  | zero =>
    intro nc o a f hx h
    rw [show npl 0 pl = pl from rfl, stl_no hp]
    exact ⟨rfl, rfl, fun _ _ => ⟨rfl, rfl⟩, h⟩
  | succ k ih =>
    intro nc o a f hx h
    rw [show npl (k + 1) pl = (28, 0) :: npl k pl from rfl, stl_op (by decide) (by decide)]
    obtain ⟨h1, h2, h3, h4⟩ := ih (nc + 1) (fup o nc 28) (fup a nc 0) (nt f) (by omega) (rM_nt (rM_fr h (fun j j1 j2 => ⟨fup_n (by omega), fup_n (by omega)⟩)) (fup_s _ _ _))
    refine ⟨h1, by rw [h2]; omega, fun j hj => ?_, by rw [show nc + (k + 1) = nc + 1 + k by omega]; exact h4⟩
    obtain ⟨y1, y2⟩ := h3 j (by omega)
    rw [y1, y2, fup_n (by omega), fup_n (by omega)]
    exact ⟨rfl, rfl⟩
theorem rRun_01 {E : rdE} {u : Int} {s : rdS} (hf : s.flt = 0) (h1 : ¬ (rK E s = 1 ∧ rW E s = 14836)) (h2 : ¬ (rK E s = 3 ∧ rW E s = 40)) : ∀ m, rRun E u m 0 s = rRun E u m 1 s := by
  intro m
  cases m with
  | zero => rfl
  | succ m =>
    rw [rRun, if_neg (by omega), rRun, if_neg (by omega)]
    have e1 : rStepV E u 0 s = rStepV E u 1 s := by show rPlainV E s = rPartV E s; unfold rPlainV; rw [if_neg h1, if_neg h2]
    have e2 : rStep E u 0 s = rStep E u 1 s := by show rPlain E s = rPart E s; unfold rPlain; rw [if_neg h1, if_neg h2]
    rw [e1, e2]
theorem rch_01 {E : rdE} {u t2 : Int} {s s2 : rdS} (hf : s.flt = 0) (h1 : ¬ (rK E s = 1 ∧ rW E s = 14836)) (h2 : ¬ (rK E s = 3 ∧ rW E s = 40)) (h : rch E u 1 s t2 s2) : rch E u 0 s t2 s2 := by
  obtain ⟨n, h⟩ := h
  exact ⟨n, fun f => by rw [rRun_01 hf h1 h2]; exact h f⟩
theorem hw_10 : hw 10 0 = 14836 := by decide +kernel
theorem hw_12 : hw 12 0 = 1476 := by decide +kernel
theorem hw_13 : hw 13 0 = 498 := by decide +kernel
/-- the words not, counted -/
theorem sim_nots {E : rdE} {s : rdS} (htn : E.tn ≤ 400) : ∀ (f : Nat) (t : Bool) (c1 : cS) (k : Nat) (s1 : rdS), E.tn - c1.i < f → SP E c1 s1 → (t = true ↔ k % 2 = 1) → ∃ (c2 : cS) (k2 : Nat) (s2 : rdS), nLp E f (t, c1) = (decide (k2 % 2 = 1), c2) ∧ ¬ cwd E 10 c2 ∧ rch E 1 0 s1 0 s2 ∧ SP E c2 s2 ∧ k ≤ k2 ∧ s2 = (c2.i, s1.bad, s1.flt, npl (k2 - k) s1.pl, s1.op, s1.lv, s1.nc, s1.o, s1.a) ∧ c2 = (c2.i, c1.pa, c1.sz, c1.o, c1.a, c1.ab, c1.flt) ∧ c1.i + (k2 - k) ≤ c2.i := by
  intro f
  induction f with
  | zero => intro t c1 k s1 h; omega
  | succ f ih =>
    intro t c1 k s1 hf hp ht
    obtain ⟨hi, hlv, hf0, hit, hsz, hpa, hab, htn2⟩ := id hp
    obtain ⟨hkE, hkW⟩ := rK_c (E := E) hi
    by_cases hw : cwd E 10 c1
    · have hb : nLp E (f + 1) (t, c1) = nLp E f (!t, cnx E c1) := by
        show (if cwd E 10 c1 then _ else _) = _
        rw [if_pos hw]
      have hg := tkE_gt (tn := E.tn) (tb := E.tb) (i := c1.i) hit (show tkK E.tn E.tb c1.i ≠ 0 by have : tkK E.tn E.tb c1.i = 1 := hw.1; omega)
      have hnot : rK E s1 = 1 ∧ rW E s1 = 14836 := by rw [hkE, hkW, ← hw_10]; exact hw
      obtain ⟨s2, hs2⟩ : ∃ s2, s2 = nxS E (psh 28 0 s1) := ⟨_, rfl⟩
      have hst : rch E 1 0 s1 0 s2 := by
        have := rch_0 (E := E) (u := 1) hf0
        unfold rPlainV rPlain at this
        rw [if_pos hnot, if_pos hnot] at this
        rw [hs2]; exact this
      have hp2 : SP E (cnx E c1) s2 := ⟨by rw [hs2]; show tkE E.tn E.tb c1.i = tkE E.tn E.tb s1.i; rw [hi], by rw [hs2]; exact hlv, by rw [hs2]; exact hf0, hg.2, by show c1.sz ≤ tkE E.tn E.tb c1.i; omega, hpa, hab, htn⟩
      obtain ⟨c2, k2, s3, i1, i2, i3, i4, i5, i6, i7, i8⟩ := ih (!t) (cnx E c1) (k + 1) s2 (by show E.tn - tkE E.tn E.tb c1.i < f; omega) hp2 (by cases t <;> simp_all <;> omega)
      have h8 : tkE E.tn E.tb c1.i + (k2 - (k + 1)) ≤ c2.i := i8
      refine ⟨c2, k2, s3, by rw [hb]; exact i1, i2, rch_tr hst i3, i4, by omega, ?_, i7, by omega⟩
      rw [i6, hs2]
      have hn : npl (k2 - (k + 1)) ((28, 0) :: s1.pl) = npl (k2 - k) s1.pl := by
        have gen : ∀ m (pl : rd_P), npl m ((28, 0) :: pl) = npl (m + 1) pl := by
          intro m
          induction m with
          | zero => intro pl; rfl
          | succ m ihm => intro pl; show (28, 0) :: npl m ((28, 0) :: pl) = _; rw [ihm]; rfl
        rw [gen, show k2 - (k + 1) + 1 = k2 - k by omega]
      show (c2.i, s1.bad, s1.flt, npl (k2 - (k + 1)) ((28, 0) :: s1.pl), s1.op, s1.lv, s1.nc, s1.o, s1.a) = _
      rw [hn]
    · refine ⟨c1, k, s1, ?_, hw, rch_rf, hp, Nat.le_refl _, ?_, rfl, by omega⟩
      · have hb : nLp E (f + 1) (t, c1) = (t, c1) := by
          show (if cwd E 10 c1 then _ else _) = _
          rw [if_neg hw]
        rw [hb]
        congr 1
        cases t
        · exact (decide_eq_false (fun z => by have := ht.mpr z; cases this)).symm
        · exact (decide_eq_true (ht.mp rfl)).symm
      · rw [Nat.sub_self, hi]; rfl

/-! the reference's reader: an expression -/
def RT (M : Nat → Nat → Int) (E : rdE) (b : Nat) (s : rdS) : Prop := (M 228 13 = ((E.tn : Nat) : Int)) ∧ (E.tn ≤ 400) ∧ (M 237 = E.tb) ∧ (∀ j, 0 ≤ E.tb j ∧ E.tb j ≤ 255) ∧ (M 228 20 = E.od) ∧ (E.od = 0 ∨ E.od = 1) ∧ (∀ k, k < 12 → M 243 k = E.f k ∧ 0 ≤ E.f k ∧ E.f k ≤ 1125899906842624) ∧ (∀ k, k < 9 → M 244 k = E.g k ∧ 0 ≤ E.g k ∧ E.g k ≤ 1125899906842624) ∧ (s.i ≤ E.tn) ∧ (lex M E.tn E.tb s.i) ∧ (M 228 18 = s.bad) ∧ (M 228 19 = s.flt) ∧ (M 228 26 = ((s.lv : Nat) : Int)) ∧ (M 228 23 = ((s.nc : Nat) : Int)) ∧ (M 239 = s.o) ∧ (M 240 = s.a) ∧ (s.nc ≤ b) ∧ (b ≤ 400) ∧ (s.lv ≤ 50)
theorem RT.h13 {M : Nat → Nat → Int} {E : rdE} {b : Nat} {s : rdS} (h : RT M E b s) : M 228 13 = ((E.tn : Nat) : Int) := h.1
theorem RT.htn {M : Nat → Nat → Int} {E : rdE} {b : Nat} {s : rdS} (h : RT M E b s) : E.tn ≤ 400 := h.2.1
theorem RT.h237 {M : Nat → Nat → Int} {E : rdE} {b : Nat} {s : rdS} (h : RT M E b s) : M 237 = E.tb := h.2.2.1
theorem RT.htb {M : Nat → Nat → Int} {E : rdE} {b : Nat} {s : rdS} (h : RT M E b s) : ∀ j, 0 ≤ E.tb j ∧ E.tb j ≤ 255 := h.2.2.2.1
theorem RT.h20 {M : Nat → Nat → Int} {E : rdE} {b : Nat} {s : rdS} (h : RT M E b s) : M 228 20 = E.od := h.2.2.2.2.1
theorem RT.hod {M : Nat → Nat → Int} {E : rdE} {b : Nat} {s : rdS} (h : RT M E b s) : E.od = 0 ∨ E.od = 1 := h.2.2.2.2.2.1
theorem RT.h243 {M : Nat → Nat → Int} {E : rdE} {b : Nat} {s : rdS} (h : RT M E b s) : ∀ k, k < 12 → M 243 k = E.f k ∧ 0 ≤ E.f k ∧ E.f k ≤ 1125899906842624 := h.2.2.2.2.2.2.1
theorem RT.h244 {M : Nat → Nat → Int} {E : rdE} {b : Nat} {s : rdS} (h : RT M E b s) : ∀ k, k < 9 → M 244 k = E.g k ∧ 0 ≤ E.g k ∧ E.g k ≤ 1125899906842624 := h.2.2.2.2.2.2.2.1
theorem RT.hi {M : Nat → Nat → Int} {E : rdE} {b : Nat} {s : rdS} (h : RT M E b s) : s.i ≤ E.tn := h.2.2.2.2.2.2.2.2.1
theorem RT.hlx {M : Nat → Nat → Int} {E : rdE} {b : Nat} {s : rdS} (h : RT M E b s) : lex M E.tn E.tb s.i := h.2.2.2.2.2.2.2.2.2.1
theorem RT.h18 {M : Nat → Nat → Int} {E : rdE} {b : Nat} {s : rdS} (h : RT M E b s) : M 228 18 = s.bad := h.2.2.2.2.2.2.2.2.2.2.1
theorem RT.h19 {M : Nat → Nat → Int} {E : rdE} {b : Nat} {s : rdS} (h : RT M E b s) : M 228 19 = s.flt := h.2.2.2.2.2.2.2.2.2.2.2.1
theorem RT.h26 {M : Nat → Nat → Int} {E : rdE} {b : Nat} {s : rdS} (h : RT M E b s) : M 228 26 = ((s.lv : Nat) : Int) := h.2.2.2.2.2.2.2.2.2.2.2.2.1
theorem RT.h23 {M : Nat → Nat → Int} {E : rdE} {b : Nat} {s : rdS} (h : RT M E b s) : M 228 23 = ((s.nc : Nat) : Int) := h.2.2.2.2.2.2.2.2.2.2.2.2.2.1
theorem RT.h239 {M : Nat → Nat → Int} {E : rdE} {b : Nat} {s : rdS} (h : RT M E b s) : M 239 = s.o := h.2.2.2.2.2.2.2.2.2.2.2.2.2.2.1
theorem RT.h240 {M : Nat → Nat → Int} {E : rdE} {b : Nat} {s : rdS} (h : RT M E b s) : M 240 = s.a := h.2.2.2.2.2.2.2.2.2.2.2.2.2.2.2.1
theorem RT.hnb {M : Nat → Nat → Int} {E : rdE} {b : Nat} {s : rdS} (h : RT M E b s) : s.nc ≤ b := h.2.2.2.2.2.2.2.2.2.2.2.2.2.2.2.2.1
theorem RT.hb {M : Nat → Nat → Int} {E : rdE} {b : Nat} {s : rdS} (h : RT M E b s) : b ≤ 400 := h.2.2.2.2.2.2.2.2.2.2.2.2.2.2.2.2.2.1
theorem RT.hlv {M : Nat → Nat → Int} {E : rdE} {b : Nat} {s : rdS} (h : RT M E b s) : s.lv ≤ 50 := h.2.2.2.2.2.2.2.2.2.2.2.2.2.2.2.2.2.2
theorem RS_RT {M : Nat → Nat → Int} {E : rdE} {b : Nat} {s : rdS} (h : RS M E b s) : RT M E b s := by
  unfold RT
  exact ⟨h.h13, h.htn, h.h237, h.htb, h.h20, h.hod, h.h243, h.h244, h.hi, h.hlx, h.h18, h.h19, h.h26, h.h23, h.h239, h.h240, (Nat.le_trans (Nat.le_add_right _ _) h.hnb), h.hb, h.hlv⟩
def clr (s : rdS) : rdS := (s.i, s.bad, s.flt, [], 0, s.lv, s.nc, s.o, s.a)
theorem RT_RS {M : Nat → Nat → Int} {E : rdE} {b : Nat} {s : rdS} {M1 M2 : Nat → Nat → Int} (h : RT M E b s) (e1 : M1 = px_up M 228 29 0) (e2 : M2 = px_up M1 228 30 0) : RS M2 E b (clr s) := by
  have f : ∀ j, j ≠ 29 → j ≠ 30 → M2 228 j = M 228 j := fun j h1 h2 => by rw [e2, up_ne h2, e1, up_ne h1]
  have k : ∀ a, a ≠ 228 → M2 a = M a := fun a ha => by rw [e2, ask_ne ha, e1, ask_ne ha]
  unfold RS
  exact ⟨(f 13 (by decide) (by decide)).trans h.h13, h.htn, (k 237 (by decide)).trans h.h237, h.htb, (f 20 (by decide) (by decide)).trans h.h20, h.hod, (by rw [k 243 (by decide)]; exact h.h243), (by rw [k 244 (by decide)]; exact h.h244), h.hi, lex_w (lex_w h.hlx e1 (by decide)) e2 (by decide), (f 18 (by decide) (by decide)).trans h.h18, (f 19 (by decide) (by decide)).trans h.h19, (by rw [e2, up_ne (by decide), e1, up_s]; rfl), (by rw [e2, up_s]; rfl), (f 26 (by decide) (by decide)).trans h.h26, (f 23 (by decide) (by decide)).trans h.h23, (k 239 (by decide)).trans h.h239, (k 240 (by decide)).trans h.h240, ⟨fun j hj => absurd hj (Nat.not_lt_zero _), fun j hj => absurd hj (Nat.not_lt_zero _)⟩, (fun e he => absurd he (List.not_mem_nil)), (by have := h.hnb; show s.nc + 0 ≤ b; omega), h.hb, (by show -((s.i : Nat) : Int) ≤ 0 ∧ (0 : Int) ≤ 8; omega), h.hlv⟩
def pgs (s s2 : rdS) : Prop := s2.flt = 1 ∨ s.i + 1 ≤ s2.i
theorem pg_open {E : rdE} {s : rdS} {u : Int} (hi : s.i ≤ E.tn) (hK : rK E s ≠ 0) : pgs s (rOpen E u s) := by
  unfold rOpen
  split
  · exact Or.inr (tkE_1 hi hK)
  · exact Or.inl rfl
theorem rAt_K {E : rdE} {s : rdS} (h : rAt E s ≠ -1) : rK E s = 1 := by
  unfold rAt at h
  split at h
  · exact pAt_k _ h
  · exact pAt_k _ h
theorem pg_leaf {E : rdE} {s : rdS} {u x y : Int} (hi : s.i ≤ E.tn) (hK : u = 1 → rK E s ≠ 0) : pgs s (rLeaf E u x y s) := by
  unfold rLeaf
  split
  · rename_i h; exact Or.inr (tkE_1 hi (hK h.1))
  · exact Or.inl rfl
theorem pg_lf {E : rdE} {s : rdS} (hi : s.i ≤ E.tn) : pgs s (rLf E s) := by
  unfold rLf
  refine pg_leaf hi (fun h => ?_)
  by_cases c : rAt E s ≠ -1 ∨ (rK E s = 2 ∧ rW E s ≤ 1000)
  · rcases c with c | c
    · have := rAt_K c; omega
    · omega
  · rw [if_neg c] at h; exact absurd h (by decide)
theorem leaf_i {E : rdE} {s : rdS} {u x y : Int} (hi : s.i ≤ E.tn) : (rLeaf E u x y s).i ≤ E.tn := by
  unfold rLeaf
  split
  · exact (tkE_b hi).2
  · exact hi
theorem pg_part {E : rdE} {s : rdS} (hi : s.i ≤ E.tn) : pgs s (rPart E s) := by
  unfold rPart
  split
  · rename_i h; exact pg_open hi (by omega)
  · split
    · rename_i h
      rcases pg_lf hi with z | z
      · exact absurd z (by rw [h.2.2]; decide)
      · exact Or.inr (Nat.le_trans z (rNb_i (leaf_i hi)))
    · exact pg_lf hi
theorem pg_plain {E : rdE} {s : rdS} (hi : s.i ≤ E.tn) : pgs s (rPlain E s) := by
  unfold rPlain
  split
  · rename_i h; exact Or.inr (tkE_1 hi (show rK E s ≠ 0 by omega))
  · split
    · rename_i h; exact pg_open hi (by omega)
    · exact pg_part hi
theorem rOp_K {E : rdE} {s : rdS} (h : rOp E s ≠ -1) : rK E s ≠ 0 := by
  intro z
  apply h
  unfold rOp
  rw [if_neg (by omega), if_neg (by omega), if_neg (by omega), if_neg (by omega), if_neg (by omega)]
theorem rCm_K {E : rdE} {s : rdS} (h : rCm E s ≠ 27 ∨ (rK E s = 3 ∧ rW E s = 61)) : rK E s ≠ 0 := by
  intro z
  rcases h with h | h
  · apply h
    unfold rCm
    rw [if_neg (by omega), if_neg (by omega)]
  · omega
theorem pg_sum {E : rdE} {s : rdS} {u : Int} (hi : s.i ≤ E.tn) : pgs s (rSum E u s) ∨ rSumV E u s = 4 ∨ (rSumV E u s = 2 ∧ rSum E u s = s) := by
  unfold rSum rSumV
  by_cases h1 : rOp E s ≠ -1
  · rw [if_pos h1]; exact Or.inl (Or.inr (tkE_1 hi (rOp_K h1)))
  · rw [if_neg h1, if_neg h1]
    by_cases h2 : innL s.pl = 32
    · rw [if_pos h2]
      left
      split
      · rename_i h; exact Or.inr (tkE_1 hi (show rK E s ≠ 0 by omega))
      · exact Or.inl rfl
    · rw [if_neg h2, if_neg h2]
      by_cases h3 : innL s.pl = -1 ∧ u = 0
      · rw [if_pos h3, if_pos h3]; exact Or.inr (Or.inl rfl)
      · rw [if_neg h3, if_neg h3]
        by_cases h4 : cmpL s.pl = true
        · rw [if_pos h4, if_pos h4]; exact Or.inr (Or.inr ⟨rfl, rfl⟩)
        · rw [if_neg h4]
          left
          split
          · rename_i h; exact Or.inr (tkE_1 hi (rCm_K h))
          · exact Or.inl rfl
theorem pg_test {E : rdE} {s : rdS} (hi : s.i ≤ E.tn) : pgs s (rTest E s) ∨ rTestV E s = 4 := by
  unfold rTest rTestV
  by_cases h1 : rK E s = 1 ∧ rW E s = 1476
  · rw [if_pos h1]; exact Or.inl (Or.inr (tkE_1 hi (show rK E s ≠ 0 by omega)))
  · rw [if_neg h1, if_neg h1]
    by_cases h2 : rK E s = 1 ∧ rW E s = 498
    · rw [if_pos h2]; exact Or.inl (Or.inr (tkE_1 hi (show rK E s ≠ 0 by omega)))
    · rw [if_neg h2, if_neg h2]
      by_cases h3 : innL s.pl = -1
      · rw [if_pos h3, if_pos h3]; exact Or.inr rfl
      · rw [if_neg h3]
        left
        split
        · rename_i h; exact Or.inr (tkE_1 hi (show rK E s ≠ 0 by omega))
        · exact Or.inl rfl
def rStep (E : rdE) (u t : Int) (s : rdS) : rdS := if t = 0 then rPlain E s else if t = 1 then rPart E s else if t = 3 then rSum E u s else rTest E s
def rStepV (E : rdE) (u t : Int) (s : rdS) : Int := if t = 0 then rPlainV E s else if t = 1 then rPartV E s else if t = 3 then rSumV E u s else rTestV E s
def rRun (E : rdE) (u : Int) : Nat → Int → rdS → rdS
  | 0, _, s => s
  | n + 1, t, s => if s.flt ≠ 0 ∨ t = 4 then s else rRun E u n (rStepV E u t s) (rStep E u t s)
def rk (t : Int) : Nat := if t = 3 then 3 else if t = 2 then 2 else 1
theorem rk_b (t : Int) : 1 ≤ rk t ∧ rk t ≤ 3 := by unfold rk; split; omega; split <;> omega
def rm (E : rdE) (t : Int) (s : rdS) : Nat := if s.flt = 0 ∧ t ≠ 4 then 3 * (E.tn - s.i) + rk t else 0
theorem rm_on {E : rdE} {t : Int} {s : rdS} (hf : s.flt = 0) (ht : t ≠ 4) : rm E t s = 3 * (E.tn - s.i) + rk t := if_pos ⟨hf, ht⟩
theorem rStepV_b (E : rdE) (u t : Int) (s : rdS) : 0 ≤ rStepV E u t s ∧ rStepV E u t s ≤ 4 := by
  unfold rStepV rPlainV rSumV rTestV rPartV
  repeat' split <;> omega
theorem rm_pg {E : rdE} {t t2 : Int} {s s2 : rdS} (hf : s.flt = 0) (ht : t ≠ 4) (h2 : s2.i ≤ E.tn) (h : pgs s s2) : rm E t2 s2 < rm E t s := by
  rw [rm_on hf ht]
  have k1 := rk_b t
  have k2 := rk_b t2
  by_cases z : s2.flt = 0 ∧ t2 ≠ 4
  · rw [rm_on z.1 z.2]
    rcases h with h | h
    · exact absurd z.1 (by rw [h]; decide)
    · omega
  · rw [show rm E t2 s2 = 0 from if_neg z]; omega
theorem rm_dec {E : rdE} {u t : Int} {s : rdS} (hf : s.flt = 0) (ht : t ≠ 4) (hi : s.i ≤ E.tn) (h2 : (rStep E u t s).i ≤ E.tn) (hb : 0 ≤ t ∧ t ≤ 4) : rm E (rStepV E u t s) (rStep E u t s) < rm E t s := by
  have h4 : ∀ s2 : rdS, rm E 4 s2 < rm E t s := by
    intro s2
    have e : rm E 4 s2 = 0 := by unfold rm; rw [if_neg (fun z => z.2 rfl)]
    have k1 := rk_b t; rw [e, rm_on hf ht]; omega
  by_cases t0 : t = 0
  · refine rm_pg hf ht h2 ?_
    unfold rStep; rw [if_pos t0]; exact pg_plain hi
  · by_cases t1 : t = 1
    · refine rm_pg hf ht h2 ?_
      unfold rStep; rw [if_neg t0, if_pos t1]; exact pg_part hi
    · by_cases t3 : t = 3
      · have es : rStep E u t s = rSum E u s := by unfold rStep; rw [if_neg t0, if_neg t1, if_pos t3]
        have ev : rStepV E u t s = rSumV E u s := by unfold rStepV; rw [if_neg t0, if_neg t1, if_pos t3]
        rcases pg_sum (u := u) hi with z | z | z
        · exact rm_pg hf ht h2 (by rw [es]; exact z)
        · rw [ev, z]; exact h4 _
        · rw [ev, es, z.1, z.2]
          rw [rm_on hf (by decide), rm_on hf ht, t3]
          show 3 * (E.tn - s.i) + 2 < 3 * (E.tn - s.i) + 3
          omega
      · have es : rStep E u t s = rTest E s := by unfold rStep; rw [if_neg t0, if_neg t1, if_neg t3]
        have ev : rStepV E u t s = rTestV E s := by unfold rStepV; rw [if_neg t0, if_neg t1, if_neg t3]
        rcases pg_test hi with z | z
        · exact rm_pg hf ht h2 (by rw [es]; exact z)
        · rw [ev, z]; exact h4 _
theorem rRun_e {E : rdE} {u t : Int} {s : rdS} {n : Nat} (h : s.flt ≠ 0 ∨ t = 4) : rRun E u n t s = s := by
  cases n with
  | zero => rfl
  | succ n => rw [rRun, if_pos h]
theorem rm_b (E : rdE) (t : Int) (s : rdS) : rm E t s ≤ 3 * E.tn + 3 := by
  have k1 := rk_b t
  unfold rm
  split <;> omega
def rExp (E : rdE) (u : Int) (s : rdS) : rdS := stS 1 (rRun E u (3 * E.tn + 3) (if u = 0 then 1 else 0) (clr s))
theorem lp_R_readExpression_20 {xs : Nat → Int} {L d : Nat} {sh : List (Nat × Nat)} (hd : 6 ≤ d) (hW : px_W0 <+: sh) {M0 : Nat → Nat → Int}  {E : rdE} {u : Int} (hu : u = 0 ∨ u = 1) {R : rdS} {Q : Option Value → px_H → Prop} (kx : ∀ (t : Int) (s : rdS) (n : Nat) (M : Nat → Nat → Int), px_qk sh [228, 239, 240, 241, 242] M0 M → (fz [14, 15, 16, 17, 18, 19, 23, 26, 29, 30] M0 M) → (RS M E R.i R) → px_R xs L d 228 (76, [.ref 228, .int (iI (u)), .int (iI (t))], [], (sh, M)) Q)  : ∀ (mz : Nat) (t : Int) (s : rdS) (n : Nat) (M : Nat → Nat → Int), n = mz → px_qk sh [228, 239, 240, 241, 242] M0 M → (fz [14, 15, 16, 17, 18, 19, 23, 26, 29, 30] M0 M) → (RS M E s.i s) → (0 ≤ t ∧ t ≤ 4) → (rm E t s ≤ n) → (rRun E u n t s = R) → px_R xs L d 228 (20, [.ref 228, .int (iI (u)), .int (iI (t))], [], (sh, M)) Q := by
  intro mz
  induction mz using Nat.strongRecOn with
  | _ mz ih =>
    intro t s n M hm hq hrq hS ht hn hR
    refine rr_aload_n pf_228_20 rfl ?_
    refine vr_getZ hq pf_228_21 po_228 pg_9_276 rfl (ws_228 hW) (by decide) (fun x1 hx1 rx1 => ?_)
    rw [hS.h19] at hx1
    refine rr_if_ne 76 pf_228_24 (by decide) rx1 (fun c2 => ?_) (fun c2 => ?_)
    · exact kx t s n M hq (hrq) (by rw [← hR, rRun_e (by omega)]; exact hS)
    · have hf : s.flt = 0 := by omega
      refine rr_iload_n pf_228_27 rfl ?_
      refine rr_iconst pf_228_28 ?_
      refine rr_icmp_eq 76 pf_228_29 (by decide) (by unfold rg; omega) (by unfold rg; omega) (fun c3 => ?_) (fun c3 => ?_)
      · exact kx t s n M hq (hrq) (by rw [← hR, rRun_e (by omega)]; exact hS)
      · refine rr_iload_n pf_228_32 rfl ?_
        refine rr_if_ne 43 pf_228_33 (by decide) (by unfold rg; omega) (fun c4 => ?_) (fun c4 => ?_)
        · refine rr_iload_n pf_228_43 rfl ?_
          refine rr_iconst pf_228_44 ?_
          refine rr_icmp_ne 55 pf_228_45 (by decide) (by unfold rg; omega) (by unfold rg; omega) (fun c5 => ?_) (fun c5 => ?_)
          · refine rr_iload_n pf_228_55 rfl ?_
            refine rr_iconst pf_228_56 ?_
            refine rr_icmp_ne 68 pf_228_57 (by decide) (by unfold rg; omega) (by unfold rg; omega) (fun c6 => ?_) (fun c6 => ?_)
            · refine rr_aload_n pf_228_68 rfl ?_
              obtain ⟨r9, M7, ⟨kq8, pv_M7, pS_M7, pf_M7⟩, hcM7⟩ := ct_R_behindTest (xs := xs) (L := L) (d := d) (E := E) (s := s) (by omega) hW hq.1 hq.2.1 hS hf
              have q8 := qk_trm hq kq8 (by decide)
              have rq10 := fz_tr hrq pf_M7 (by decide)
              refine rr_cV0 pf_228_69 po_228 pc_9_401 (ws_228 hW) po_244 (by decide) rfl hcM7 ?_
              refine rr_istore_n pf_228_72 (fun y => [.ref 228, .int (iI (u)), .int (iI (y))]) (Nat.le_of_ble_eq_true rfl) (fun _ => rfl) (fun y11 hy11 => ?_)
              have es : rStep E u t s = rTest E s := by unfold rStep; rw [if_neg (by omega), if_neg (by omega), if_neg (by omega)]
              have ev : rStepV E u t s = rTestV E s := by unfold rStepV; rw [if_neg (by omega), if_neg (by omega), if_neg (by omega)]
              rw [← es] at pS_M7
              have hvb := rStepV_b E u t s
              have hy : y11 = rStepV E u t s := by rw [ev]; omega
              have hi2 := pS_M7.hi
              have hdec := rm_dec (u := u) hf (by omega : t ≠ 4) hS.hi hi2 ht
              obtain ⟨n2, rfl⟩ : ∃ z, n = z + 1 := ⟨n - 1, by omega⟩
              rw [rRun, if_neg (by omega)] at hR
              refine rr_goto 20 pf_228_73 (by decide) ?_
              exact ih _ (by omega) y11 (rStep E u t s) n2 M7 rfl q8 (rq10) (pS_M7) (by omega) (by rw [hy]; omega) (by rw [hy]; exact hR)
            · refine rr_aload_n pf_228_60 rfl ?_
              refine rr_iload_n pf_228_61 rfl ?_
              obtain ⟨r14, M12, ⟨kq13, pv_M12, pS_M12, pf_M12⟩, hcM12⟩ := ct_R_behindSum (xs := xs) (L := L) (d := d) (u := u) (E := E) (s := s) (by omega) hW hq.1 hq.2.1 hS hf hu
              have q13 := qk_trm hq kq13 (by decide)
              have rq15 := fz_tr hrq pf_M12 (by decide)
              refine rr_cV1 pf_228_62 po_228 pc_9_397 (ws_228 hW) po_239 (by decide) rfl hcM12 ?_
              refine rr_goto 72 pf_228_65 (by decide) ?_
              refine rr_istore_n pf_228_72 (fun y => [.ref 228, .int (iI (u)), .int (iI (y))]) (Nat.le_of_ble_eq_true rfl) (fun _ => rfl) (fun y16 hy16 => ?_)
              have es : rStep E u t s = rSum E u s := by unfold rStep; rw [if_neg (by omega), if_neg (by omega), if_pos (by omega)]
              have ev : rStepV E u t s = rSumV E u s := by unfold rStepV; rw [if_neg (by omega), if_neg (by omega), if_pos (by omega)]
              rw [← es] at pS_M12
              have hvb := rStepV_b E u t s
              have hy : y16 = rStepV E u t s := by rw [ev]; omega
              have hi2 := pS_M12.hi
              have hdec := rm_dec (u := u) hf (by omega : t ≠ 4) hS.hi hi2 ht
              obtain ⟨n2, rfl⟩ : ∃ z, n = z + 1 := ⟨n - 1, by omega⟩
              rw [rRun, if_neg (by omega)] at hR
              refine rr_goto 20 pf_228_73 (by decide) ?_
              exact ih _ (by omega) y16 (rStep E u t s) n2 M12 rfl q13 (rq15) (pS_M12) (by omega) (by rw [hy]; omega) (by rw [hy]; exact hR)
          · refine rr_aload_n pf_228_48 rfl ?_
            obtain ⟨r19, M17, ⟨kq18, pv_M17, pS_M17, pf_M17⟩, hcM17⟩ := ct_R_readPart (xs := xs) (L := L) (d := d) (E := E) (s := s) (by omega) hW hq.1 hq.2.1 hS hf
            have q18 := qk_trm hq kq18 (by decide)
            have rq20 := fz_tr hrq pf_M17 (by decide)
            refine rr_cV0 pf_228_49 po_228 pc_9_377 (ws_228 hW) po_233 (by decide) rfl hcM17 ?_
            refine rr_goto 72 pf_228_52 (by decide) ?_
            refine rr_istore_n pf_228_72 (fun y => [.ref 228, .int (iI (u)), .int (iI (y))]) (Nat.le_of_ble_eq_true rfl) (fun _ => rfl) (fun y21 hy21 => ?_)
            have es : rStep E u t s = rPart E s := by unfold rStep; rw [if_neg (by omega), if_pos (by omega)]
            have ev : rStepV E u t s = rPartV E s := by unfold rStepV; rw [if_neg (by omega), if_pos (by omega)]
            rw [← es] at pS_M17
            have hvb := rStepV_b E u t s
            have hy : y21 = rStepV E u t s := by rw [ev]; omega
            have hi2 := pS_M17.hi
            have hdec := rm_dec (u := u) hf (by omega : t ≠ 4) hS.hi hi2 ht
            obtain ⟨n2, rfl⟩ : ∃ z, n = z + 1 := ⟨n - 1, by omega⟩
            rw [rRun, if_neg (by omega)] at hR
            refine rr_goto 20 pf_228_73 (by decide) ?_
            exact ih _ (by omega) y21 (rStep E u t s) n2 M17 rfl q18 (rq20) (pS_M17) (by omega) (by rw [hy]; omega) (by rw [hy]; exact hR)
        · refine rr_aload_n pf_228_36 rfl ?_
          obtain ⟨r24, M22, ⟨kq23, pv_M22, pS_M22, pf_M22⟩, hcM22⟩ := ct_R_readPlain (xs := xs) (L := L) (d := d) (E := E) (s := s) (by omega) hW hq.1 hq.2.1 hS hf
          have q23 := qk_trm hq kq23 (by decide)
          have rq25 := fz_tr hrq pf_M22 (by decide)
          refine rr_cV0 pf_228_37 po_228 pc_9_394 (ws_228 hW) po_229 (by decide) rfl hcM22 ?_
          refine rr_goto 72 pf_228_40 (by decide) ?_
          refine rr_istore_n pf_228_72 (fun y => [.ref 228, .int (iI (u)), .int (iI (y))]) (Nat.le_of_ble_eq_true rfl) (fun _ => rfl) (fun y26 hy26 => ?_)
          have es : rStep E u t s = rPlain E s := by unfold rStep; rw [if_pos (by omega)]
          have ev : rStepV E u t s = rPlainV E s := by unfold rStepV; rw [if_pos (by omega)]
          rw [← es] at pS_M22
          have hvb := rStepV_b E u t s
          have hy : y26 = rStepV E u t s := by rw [ev]; omega
          have hi2 := pS_M22.hi
          have hdec := rm_dec (u := u) hf (by omega : t ≠ 4) hS.hi hi2 ht
          obtain ⟨n2, rfl⟩ : ∃ z, n = z + 1 := ⟨n - 1, by omega⟩
          rw [rRun, if_neg (by omega)] at hR
          refine rr_goto 20 pf_228_73 (by decide) ?_
          exact ih _ (by omega) y26 (rStep E u t s) n2 M22 rfl q23 (rq25) (pS_M22) (by omega) (by rw [hy]; omega) (by rw [hy]; exact hR)
theorem ct_R_readExpression {xs : Nat → Int} {L d : Nat} {sh : List (Nat × Nat)} {M0 : Nat → Nat → Int} (hd : 7 ≤ d) (hW : px_W0 <+: sh) (hF : px_Fx M0) (hG : px_RG sh M0)  {E : rdE} {s : rdS} (hT : RT M0 E s.i s) {u : Int} (hu : u = 0 ∨ u = 1) : ∃ M, (px_qk sh [228, 239, 240, 241, 242] M0 M ∧ (RS M E (rExp E u s).i (rExp E u s)) ∧ (fz [14, 15, 16, 17, 18, 19, 23, 26, 29, 30] M0 M)) ∧ px_Cl xs L d 228 [.ref 228, .int (iI (u))] (sh, M0) (none) (sh, M) := by
  obtain ⟨d, rfl⟩ : ∃ e, d = e + 1 := ⟨d - 1, by omega⟩
  have q0 : px_qk sh [228, 239, 240, 241, 242] M0 M0 := ⟨hF, hG, eo_rf⟩
  refine vc_n (Nat.le_of_ble_eq_true rfl) ?_
  show px_R xs L d 228 (0, [.ref 228, .int (iI (u)), px_jk], [], (sh, M0)) (fun r h' => r = none ∧ ∃ M', h' = (sh, M') ∧ px_qk sh [228, 239, 240, 241, 242] M0 M' ∧ RS M' E (rExp E u s).i (rExp E u s) ∧ fz [14, 15, 16, 17, 18, 19, 23, 26, 29, 30] M0 M')
  refine rr_aload_n pf_228_0 rfl ?_
  refine rr_iconst pf_228_1 ?_
  refine vr_putI hW q0 pf_228_2 po_228 pg_9_316 (Or.inl rfl) rfl (ws_228 hW) (by decide) (by unfold rg; omega) (by decide) (fun M1 eM1 q2 => ?_)
  have rq3 := fz_up (fz_rf [14, 15, 16, 17, 18, 19, 23, 26, 29, 30] M0) eM1 (by decide)
  refine rr_aload_n pf_228_5 rfl ?_
  refine rr_iconst pf_228_6 ?_
  refine vr_putI hW q2 pf_228_7 po_228 pg_9_338 (Or.inl rfl) rfl (ws_228 hW) (by decide) (by unfold rg; omega) (by decide) (fun M4 eM4 q5 => ?_)
  have rq6 := fz_up rq3 eM4 (by decide)
  refine rr_iload_n pf_228_10 rfl ?_
  refine rr_if_eq 18 pf_228_11 (by decide) (by unfold rg; omega) (fun c7 => ?_) (fun c7 => ?_)
  · refine rr_iconst pf_228_18 ?_
    refine rr_istore_n pf_228_19 (fun y => [.ref 228, .int (iI (u)), .int (iI (y))]) (Nat.le_of_ble_eq_true rfl) (fun _ => rfl) (fun y8 hy8 => ?_)
    have hs0 := RT_RS hT eM1 eM4
    
    refine lp_R_readExpression_20 (xs := xs) (L := L) (d := d) (by omega) hW hu (fun t_9 s_10 n_11  M12 q13 xrq_M12 xS_M12 => ?_) _ y8 (clr s) (3 * E.tn + 3) M4 rfl q5 (rq6) (by exact RS_b hs0 (by have := hs0.hnb; exact this) (Nat.le_trans hs0.hi hs0.htn)) (by omega) (rm_b _ _ _) (by rfl)
    
    refine rr_aload_n pf_228_76 rfl ?_
    refine rr_iconst pf_228_77 ?_
    obtain ⟨M14, ⟨kq15, pS_M14, pf_M14⟩, hcM14⟩ := ct_RS_settle (xs := xs) (L := L) (d := d) (le := 1) (E := E) (s := (rRun E u (3 * E.tn + 3) y8 (clr s))) (b := (rRun E u (3 * E.tn + 3) y8 (clr s)).i) (by omega) hW q13.1 q13.2.1 xS_M12 (by unfold rg; omega)
    have q15 := qk_trm q13 kq15 (by decide)
    have rq17 := fz_tr xrq_M12 pf_M14 (by decide)
    refine rr_cV1 pf_228_78 po_228 pc_9_380 (ws_228 hW) po_241 (by decide) rfl hcM14 ?_
    refine rr_vret pf_228_81 pt_228 ⟨rfl, M14, rfl, q15, (by unfold rExp; rw [if_pos (by omega)]; have z := pS_M14; rw [show y8 = 1 by omega] at z; exact z), (rq17)⟩
  · refine rr_iconst pf_228_14 ?_
    refine rr_goto 19 pf_228_15 (by decide) ?_
    refine rr_istore_n pf_228_19 (fun y => [.ref 228, .int (iI (u)), .int (iI (y))]) (Nat.le_of_ble_eq_true rfl) (fun _ => rfl) (fun y18 hy18 => ?_)
    have hs0 := RT_RS hT eM1 eM4
    
    refine lp_R_readExpression_20 (xs := xs) (L := L) (d := d) (by omega) hW hu (fun t_19 s_20 n_21  M22 q23 xrq_M22 xS_M22 => ?_) _ y18 (clr s) (3 * E.tn + 3) M4 rfl q5 (rq6) (by exact RS_b hs0 (by have := hs0.hnb; exact this) (Nat.le_trans hs0.hi hs0.htn)) (by omega) (rm_b _ _ _) (by rfl)
    
    refine rr_aload_n pf_228_76 rfl ?_
    refine rr_iconst pf_228_77 ?_
    obtain ⟨M24, ⟨kq25, pS_M24, pf_M24⟩, hcM24⟩ := ct_RS_settle (xs := xs) (L := L) (d := d) (le := 1) (E := E) (s := (rRun E u (3 * E.tn + 3) y18 (clr s))) (b := (rRun E u (3 * E.tn + 3) y18 (clr s)).i) (by omega) hW q23.1 q23.2.1 xS_M22 (by unfold rg; omega)
    have q25 := qk_trm q23 kq25 (by decide)
    have rq27 := fz_tr xrq_M22 pf_M24 (by decide)
    refine rr_cV1 pf_228_78 po_228 pc_9_380 (ws_228 hW) po_241 (by decide) rfl hcM24 ?_
    refine rr_vret pf_228_81 pt_228 ⟨rfl, M24, rfl, q25, (by unfold rExp; rw [if_neg (by omega)]; have z := pS_M24; rw [show y18 = 0 by omega] at z; exact z), (rq27)⟩

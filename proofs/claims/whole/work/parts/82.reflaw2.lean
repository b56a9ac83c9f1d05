/-! the reference's reader: its place and its fault; a law -/
def pr2 (E : rdE) (s s2 : rdS) : Prop := s.i ≤ s2.i ∧ s2.i ≤ E.tn ∧ (s2.flt = s.flt ∨ s2.flt = 1)
section PR2
variable {E : rdE} {s s2 s3 : rdS}
theorem p2_rf (h : s.i ≤ E.tn) : pr2 E s s := ⟨Nat.le_refl _, h, Or.inl rfl⟩
theorem p2_tr (h1 : pr2 E s s2) (h2 : pr2 E s2 s3) : pr2 E s s3 := by
  obtain ⟨a1, a2, a3⟩ := h1
  obtain ⟨b1, b2, b3⟩ := h2
  refine ⟨Nat.le_trans a1 b1, b2, ?_⟩
  rcases b3 with b3 | b3
  · rcases a3 with a3 | a3
    · exact Or.inl (b3.trans a3)
    · exact Or.inr (b3.trans a3)
  · exact Or.inr b3
theorem p2_nx (h : s.i ≤ E.tn) : pr2 E s (nxS E s) := by
  have a := tkS_b (tb := E.tb) h
  have b := tkE_b (tb := E.tb) h
  exact ⟨Nat.le_trans a.1 b.1, b.2, Or.inl rfl⟩
theorem p2_fl (h : s.i ≤ E.tn) : pr2 E s (fl E s) := ⟨Nat.le_refl _, h, Or.inr rfl⟩
theorem p2_open {u : Int} (h : s.i ≤ E.tn) : pr2 E s (rOpen E u s) := by
  unfold rOpen; split
  · exact p2_nx h
  · exact p2_fl h
theorem p2_leaf {u x y : Int} (h : s.i ≤ E.tn) : pr2 E s (rLeaf E u x y s) := by
  unfold rLeaf; split
  · exact p2_nx h
  · exact p2_fl h
theorem p2_nb {x y : Int} (h : s.i ≤ E.tn) : pr2 E s (rNb E x y s) := by
  unfold rNb; split
  · exact p2_nx h
  · exact p2_fl h
theorem p2_lf (h : s.i ≤ E.tn) : pr2 E s (rLf E s) := by unfold rLf; exact p2_leaf h
theorem p2_part (h : s.i ≤ E.tn) : pr2 E s (rPart E s) := by
  unfold rPart; split
  · exact p2_open h
  · split
    · have z := p2_lf h
      exact p2_tr z (p2_nb z.2.1)
    · exact p2_lf h
theorem p2_plain (h : s.i ≤ E.tn) : pr2 E s (rPlain E s) := by
  unfold rPlain; split
  · exact p2_nx h
  · split
    · exact p2_open h
    · exact p2_part h
theorem p2_sum {u : Int} (h : s.i ≤ E.tn) : pr2 E s (rSum E u s) := by
  unfold rSum; split
  · exact p2_nx h
  · split
    · split
      · exact p2_nx h
      · exact p2_fl h
    · split
      · exact p2_rf h
      · split
        · exact p2_rf h
        · split
          · exact p2_nx h
          · exact p2_fl h
theorem p2_test (h : s.i ≤ E.tn) : pr2 E s (rTest E s) := by
  unfold rTest; split
  · exact p2_nx h
  · split
    · exact p2_nx h
    · split
      · exact p2_rf h
      · split
        · exact p2_nx h
        · exact p2_fl h
theorem p2_step {u t : Int} (h : s.i ≤ E.tn) : pr2 E s (rStep E u t s) := by
  unfold rStep; split
  · exact p2_plain h
  · split
    · exact p2_part h
    · split
      · exact p2_sum h
      · exact p2_test h
end PR2
theorem p2_run {E : rdE} {u : Int} : ∀ (n : Nat) (t : Int) (s : rdS), s.i ≤ E.tn → pr2 E s (rRun E u n t s) := by
  intro n
  induction n with
  | zero => intro t s h; exact p2_rf h
  | succ n ih =>
    intro t s h
    rw [rRun]
    split
    · exact p2_rf h
    · have z := p2_step (u := u) (t := t) h
      exact p2_tr z (ih _ _ z.2.1)
section PR3
variable {E : rdE} {s s2 s3 : rdS}
theorem p2_exp {u : Int} (h : s.i ≤ E.tn) : pr2 E s (rExp E u s) := p2_run (E := E) (u := u) (3 * E.tn + 3) (if u = 0 then 1 else 0) (clr s) h
theorem p2_lw1 {k : Int} (h : s.i ≤ E.tn) : pr2 E s (lw1 E k s) := by
  unfold lw1; split
  · exact p2_nx h
  · exact p2_tr (p2_nx h) (p2_exp (p2_nx h).2.1)
theorem p2_lw2 (h : s.i ≤ E.tn) : pr2 E s (lw2 E s) := by
  unfold lw2; split
  · exact p2_tr (p2_nx h) (p2_exp (p2_nx h).2.1)
  · exact p2_rf h
theorem p2_sm (h : s.i ≤ E.tn) : pr2 E s (rSm E s) := by
  unfold rSm; split
  · exact p2_rf h
  · exact p2_exp h
theorem p2_mst {u : Int} (h : s.i ≤ E.tn) : pr2 E s (mst E u s) := by
  unfold mst; split
  · exact p2_nx h
  · exact p2_fl h
theorem p2_od1 {k : Int} (h : s.i ≤ E.tn) : pr2 E s (od1 E k s) := by
  unfold od1; split
  · exact p2_rf h
  · exact p2_sm h
theorem p2_od2 {k : Int} (h : s.i ≤ E.tn) : pr2 E s (od2 E k s) := by
  unfold od2; split
  · exact p2_rf h
  · exact p2_mst h
theorem p2_od3 {k : Int} (h : s.i ≤ E.tn) : pr2 E s (od3 E k s) := by
  unfold od3; split
  · exact p2_rf h
  · exact p2_tr (p2_od2 h) (p2_sm (p2_od2 h).2.1)
theorem p2_od4 (h : s.i ≤ E.tn) : pr2 E s (od4 E s) := by
  unfold od4; split
  · exact p2_tr (p2_nx h) (p2_nb (p2_nx h).2.1)
  · exact p2_rf h
theorem p2_oS4 {k : Int} (h : s.i ≤ E.tn) : pr2 E s (oS4 E k s) := by
  unfold oS4
  have a := p2_nx h
  have b := p2_tr a (p2_od1 (k := k) a.2.1)
  have c := p2_tr b (p2_od3 (k := k) b.2.1)
  exact p2_tr c (p2_od4 c.2.1)
end PR3
/-! a text: clause by clause -/
abbrev lwQ : Type := rdS × Nat × (Nat → Int)
def lwT (E : rdE) (lw : Nat → Int) (z : lwQ) : lwQ := (if kAt lw (rK E z.1) (rW E z.1) 4 = -1 ∨ 12 ≤ z.2.1 then fl E z.1 else lw2 E (lw1 E (kAt lw (rK E z.1) (rW E z.1) 4) z.1), if kAt lw (rK E z.1) (rW E z.1) 4 = -1 ∨ 12 ≤ z.2.1 then z.2.1 else z.2.1 + 1, if kAt lw (rK E z.1) (rW E z.1) 4 = -1 ∨ 12 ≤ z.2.1 then z.2.2 else lwC E (kAt lw (rK E z.1) (rW E z.1) 4) z.1 z.2.1 z.2.2)
def odT (E : rdE) (lw : Nat → Int) (z : lwQ) : lwQ := (if kAt lw (rK E z.1) (rW E z.1) 5 = -1 ∨ 12 ≤ z.2.1 then fl E z.1 else lw2 E (oS4 E (kAt lw (rK E z.1) (rW E z.1) 5) z.1), if kAt lw (rK E z.1) (rW E z.1) 5 = -1 ∨ 12 ≤ z.2.1 then z.2.1 else z.2.1 + 1, if kAt lw (rK E z.1) (rW E z.1) 5 = -1 ∨ 12 ≤ z.2.1 then z.2.2 else oCs E (kAt lw (rK E z.1) (rW E z.1) 5) z.2.1 z.1 z.2.2)
def lwN (E : rdE) (z : lwQ) : lwQ := (nxS E z.1, z.2.1, z.2.2)
def semi (E : rdE) (s : rdS) : Prop := s.flt = 0 ∧ rK E s = 3 ∧ rW E s = 59
def lwR (E : rdE) (f : lwQ → lwQ) : Nat → lwQ → lwQ
  | 0, z => z
  | n + 1, z => if z.1.flt = 0 ∧ rK E z.1 = 3 ∧ rW E z.1 = 59 then lwR E f n (f (lwN E z)) else z
theorem lwR_e {E : rdE} {f : lwQ → lwQ} {n : Nat} {z : lwQ} (h : ¬ (z.1.flt = 0 ∧ rK E z.1 = 3 ∧ rW E z.1 = 59)) : lwR E f n z = z := by
  cases n with
  | zero => rfl
  | succ n => rw [lwR, if_neg h]
theorem p2_lwT {E : rdE} {lw : Nat → Int} {z : lwQ} (h : z.1.i ≤ E.tn) : pr2 E z.1 (lwT E lw z).1 := by
  show pr2 E z.1 (if _ then _ else _)
  split
  · exact p2_fl h
  · have a := p2_lw1 (k := kAt lw (rK E z.1) (rW E z.1) 4) h
    exact p2_tr a (p2_lw2 a.2.1)
theorem p2_odT {E : rdE} {lw : Nat → Int} {z : lwQ} (h : z.1.i ≤ E.tn) : pr2 E z.1 (odT E lw z).1 := by
  show pr2 E z.1 (if _ then _ else _)
  split
  · exact p2_fl h
  · have a := p2_oS4 (k := kAt lw (rK E z.1) (rW E z.1) 5) h
    exact p2_tr a (p2_lw2 a.2.1)
theorem lwT_n {E : rdE} {lw : Nat → Int} {z : lwQ} (h : z.2.1 ≤ 12) : (lwT E lw z).2.1 ≤ 12 := by
  show (if _ then z.2.1 else z.2.1 + 1) ≤ 12
  split
  · exact h
  · rename_i hc
    exact Nat.lt_of_not_le (fun y => hc (Or.inr y))
theorem odT_n {E : rdE} {lw : Nat → Int} {z : lwQ} (h : z.2.1 ≤ 12) : (odT E lw z).2.1 ≤ 12 := by
  show (if _ then z.2.1 else z.2.1 + 1) ≤ 12
  split
  · exact h
  · rename_i hc
    exact Nat.lt_of_not_le (fun y => hc (Or.inr y))
theorem fz_tell {X : List Nat} {M M2 M3 : Nat → Nat → Int} {x : Int} (h : fz X M M2) (e : M3 228 = px_up M2 228 1 x 228) (hX : 1 ∈ X) : fz X M M3 := fun j hj => by
  rw [e, up_ne (fun z => hj (by rw [z]; exact hX))]; exact h j hj
def cpW (g : Nat → Int) (p : Nat) (c : Nat → Int) (k : Nat) : Nat → Int := fun j => if p ≤ j ∧ j < p + k then c (j - p) else g j
theorem cpW_0 (g : Nat → Int) (p : Nat) (c : Nat → Int) : cpW g p c 0 = g := funext fun j => if_neg (by omega)
theorem cpW_s (g : Nat → Int) (p : Nat) (c : Nat → Int) (k : Nat) : cpW g p c (k + 1) = fup (cpW g p c k) (p + k) (c k) := by
  funext j
  unfold fup cpW
  by_cases h : j = p + k
  · rw [if_pos h, if_pos (by omega), h, Nat.add_sub_cancel_left]
  · rw [if_neg h]
    by_cases h2 : p ≤ j ∧ j < p + k
    · rw [if_pos h2, if_pos (by omega)]
    · rw [if_neg h2, if_neg (by omega)]
def cpC (g : Nat → Int) (p : Nat) (o a : Nat → Int) (k : Nat) : Nat → Int := fun j => if p ≤ j ∧ j < p + 2 * k then (if (j - p) % 2 = 0 then o ((j - p) / 2) else a ((j - p) / 2)) else g j
theorem cpC_0 (g : Nat → Int) (p : Nat) (o a : Nat → Int) : cpC g p o a 0 = g := funext fun j => if_neg (by omega)
theorem cpC_s (g : Nat → Int) (p : Nat) (o a : Nat → Int) (k : Nat) : cpC g p o a (k + 1) = fup (fup (cpC g p o a k) (p + 2 * k) (o k)) (p + 2 * k + 1) (a k) := by
  funext j
  unfold fup cpC
  by_cases h : j = p + 2 * k + 1
  · rw [if_pos h, if_pos (by omega), if_neg (by omega), show (j - p) / 2 = k by omega]
  · rw [if_neg h]
    by_cases h3 : j = p + 2 * k
    · rw [if_pos h3, if_pos (by omega), if_pos (by omega), show (j - p) / 2 = k by omega]
    · rw [if_neg h3]
      by_cases h2 : p ≤ j ∧ j < p + 2 * k
      · rw [if_pos h2, if_pos (by omega)]
      · rw [if_neg h2, if_neg (by omega)]
/-- the row with a new law -/
def lwX (g : Nat → Int) (n nl : Nat) (c : Nat → Int) (nc : Nat) (o a : Nat → Int) : Nat → Int := fup (cpC (cpW (fup g (900 * n + 111) ((nl : Nat) : Int)) (900 * n + 112) c (8 * nl)) (900 * n + 208) o a nc) 3 (((n : Nat) : Int) + 1)
theorem ct_R_law5 {xs : Nat → Int} {L d : Nat} {sh : List (Nat × Nat)} {M0 : Nat → Nat → Int} (hd : 12 ≤ d) (hW : px_W0 <+: sh) (hF : px_Fx M0) (hG : px_RG sh M0)  (hrf : ∀ j, j < 7 → 0 ≤ M0 229 j ∧ M0 229 j ≤ 1000000000) (h6 : M0 230 3 = 6) : ∃ v M, (px_qk sh [228, 229] M0 M ∧ (v = -5) ∧ (M 228 13 = 0) ∧ (M 228 1 = if v < 0 then v else 0) ∧ (M 229 = bmp (M0 229) v) ∧ (fz [0, 1, 13] M0 M)) ∧ px_Cl xs L d 219 [.ref 228] (sh, M0) (some (.int (iI v))) (sh, M) := by
  obtain ⟨d, rfl⟩ : ∃ e, d = e + 1 := ⟨d - 1, by omega⟩
  have q0 : px_qk sh [228, 229] M0 M0 := ⟨hF, hG, eo_rf⟩
  refine vc_i (Nat.le_of_ble_eq_true rfl) ?_
  show px_R xs L d 219 (0, [.ref 228, px_jk, px_jk], [], (sh, M0)) (fun r h' => ∃ v M', r = some (.int (iI v)) ∧ h' = (sh, M') ∧ px_qk sh [228, 229] M0 M' ∧ v = -5 ∧ M' 228 13 = 0 ∧ (M' 228 1 = if v < 0 then v else 0) ∧ M' 229 = bmp (M0 229) v ∧ fz [0, 1, 13] M0 M')
  refine rr_aload_n pf_219_0 rfl ?_
  refine rr_iconst pf_219_1 ?_
  refine vr_putI hW q0 pf_219_2 po_219 pg_9_177 (Or.inl rfl) rfl (ws_228 hW) (by decide) (by unfold rg; omega) (by decide) (fun M1 eM1 q2 => ?_)
  have rq3 := fz_up (fz_rf [0, 1, 13] M0) eM1 (by decide)
  have e4 : M1 229 = M0 229 := (show M1 229 = M0 229 by rw [eM1, ask_ne (by decide)]).trans (rfl : M0 229 = M0 229)
  refine rr_aload_n pf_219_5 rfl ?_
  refine rr_getR pf_219_6 po_219 pg_9_13 rfl (ws_228 hW) (by decide) (wr_228_3 q2.1) ?_
  refine rr_iconst pf_219_9 ?_
  refine vr_iald (j := 3) q2 pf_219_10 (ws_230 hW) (by omega) (by omega) (by decide) (fun x5 hx5 rx5 => ?_)
  rw [q2.2.2 230 (by decide)] at hx5
  rw [h6] at hx5
  refine rr_bipush pf_219_11 (by decide) ?_
  refine rr_icmp_ne 28 pf_219_13 (by decide) rx5 (by unfold rg; omega) (fun c6 => ?_) (fun c6 => ?_)
  · exfalso; omega
  · refine rr_aload_n pf_219_16 rfl ?_
    refine rr_iconst pf_219_17 ?_
    refine vr_putI hW q2 pf_219_18 po_219 pg_9_264 (Or.inl rfl) rfl (ws_228 hW) (by decide) (by unfold rg; omega) (by decide) (fun M7 eM7 q8 => ?_)
    have rq9 := fz_up rq3 eM7 (by decide)
    have e10 : M7 229 = M0 229 := (show M7 229 = M1 229 by rw [eM7, ask_ne (by decide)]).trans e4
    refine rr_aload_n pf_219_21 rfl ?_
    refine rr_bipush pf_219_22 (by decide) ?_
    obtain ⟨M11, ⟨kq12, taM11, tbM11⟩, hcM11⟩ := ct_R_tell (xs := xs) (L := L) (d := d) (v := (-5)) (by omega) hW q8.1 q8.2.1 (by unfold rg; omega) (by omega) (by rw [e10]; exact hrf)
    have q12 := qk_trm q8 kq12 (by decide)
    have rq13 := fz_tell rq9 taM11 (by decide)
    have stM11 : M11 228 1 = if ((-5) : Int) < 0 then (-5) else 0 := by rw [taM11, up_s]
    have rfM11 : M11 229 = bmp (M0 229) (-5) := by rw [tbM11, e10]; rfl
    refine rr_cV1 pf_219_24 po_219 pc_9_186 (ws_228 hW) po_176 (by decide) rfl hcM11 ?_
    refine rr_iret pf_219_27 pt_219 ⟨_, M11, rfl, rfl, q12, (by rfl), (by rw [taM11, up_ne (by decide), eM7, up_s]), (stM11), (rfM11), (rq13)⟩
theorem lp_R_law0_145 {xs : Nat → Int} {L d : Nat} {sh : List (Nat × Nat)} (hd : 11 ≤ d) (hW : px_W0 <+: sh) {M0 : Nat → Nat → Int}  {n nc : Nat} {o a : Nat → Int} (hn6 : n < 6) (hncb : nc ≤ 400) {p_ : Int} (hp_ : p_ = 110 + 900 * ((n : Nat) : Int)) (hc3 : M0 228 23 = ((nc : Nat) : Int)) (hco : M0 239 = o) (hca : M0 240 = a)  {Q : Option Value → px_H → Prop} (kx : ∀ (k : Nat) (M : Nat → Nat → Int), px_qk sh [230] M0 M → (M 230 = cpC (M0 230) (900 * n + 208) o a nc) → px_R xs L d 219 (199, [.ref 228, .int (iI (p_)), .int (iI (((k : Nat) : Int)))], [], (sh, M)) Q)  : ∀ (mz : Nat) (k : Nat) (M : Nat → Nat → Int), nc - k = mz → px_qk sh [230] M0 M → (k ≤ nc) → (M 230 = cpC (M0 230) (900 * n + 208) o a k) → px_R xs L d 219 (145, [.ref 228, .int (iI (p_)), .int (iI (((k : Nat) : Int)))], [], (sh, M)) Q := by
  intro mz
  induction mz using Nat.strongRecOn with
  | _ mz ih =>
    intro k M hm hq hk hz
    have hq1 : M 228 23 = ((nc : Nat) : Int) := by rw [hq.2.2 228 (by decide)]; exact hc3
    have hq2 : M 239 = o := by rw [hq.2.2 239 (by decide)]; exact hco
    have hq3 : M 240 = a := by rw [hq.2.2 240 (by decide)]; exact hca
    refine rr_iload_n pf_219_145 rfl ?_
    refine rr_aload_n pf_219_146 rfl ?_
    refine vr_getI hq pf_219_147 po_219 pg_9_313 rfl (ws_228 hW) (by decide) (fun x1 hx1 rx1 => ?_)
    rw [hq.2.2 228 (by decide)] at hx1
    rw [hc3] at hx1
    refine rr_icmp_ge 199 pf_219_150 (by decide) (by unfold rg; omega) rx1 (fun c2 => ?_) (fun c2 => ?_)
    · exact kx k M hq (by rw [hz, show k = nc by omega])
    · refine rr_aload_n pf_219_153 rfl ?_
      refine rr_getR pf_219_154 po_219 pg_9_13 rfl (ws_228 hW) (by decide) (wr_228_3 hq.1) ?_
      refine rr_iload_n pf_219_157 rfl ?_
      refine rr_bipush pf_219_158 (by decide) ?_
      refine rr_iadd pf_219_160 ?_
      refine rr_iconst pf_219_161 ?_
      refine rr_iload_n pf_219_162 rfl ?_
      refine rr_imul pf_219_163 ?_
      refine rr_iadd pf_219_164 ?_
      refine rr_aload_n pf_219_165 rfl ?_
      refine rr_getR pf_219_166 po_219 pg_9_45 rfl (ws_228 hW) (by decide) (wr_228_24 hq.1) ?_
      refine rr_iload_n pf_219_169 rfl ?_
      refine vr_iald (j := k) hq pf_219_170 (ws_239 hW) (by omega) (by omega) (by decide) (fun x3 hx3 rx3 => ?_)
      rw [hq.2.2 239 (by decide)] at hx3
      rw [hco] at hx3
      refine vr_iast (j := (900 * n + 208 + 2 * k)) hW hq pf_219_171 (ws_230 hW) (by omega) (by omega) (by decide) rx3 (by decide) (fun M4 eM4 q5 => ?_)
      refine rr_aload_n pf_219_172 rfl ?_
      refine rr_getR pf_219_173 po_219 pg_9_13 rfl (ws_228 hW) (by decide) (wr_228_3 q5.1) ?_
      refine rr_iload_n pf_219_176 rfl ?_
      refine rr_bipush pf_219_177 (by decide) ?_
      refine rr_iadd pf_219_179 ?_
      refine rr_iconst pf_219_180 ?_
      refine rr_iload_n pf_219_181 rfl ?_
      refine rr_imul pf_219_182 ?_
      refine rr_iadd pf_219_183 ?_
      refine rr_iconst pf_219_184 ?_
      refine rr_iadd pf_219_185 ?_
      refine rr_aload_n pf_219_186 rfl ?_
      refine rr_getR pf_219_187 po_219 pg_9_48 rfl (ws_228 hW) (by decide) (wr_228_25 q5.1) ?_
      refine rr_iload_n pf_219_190 rfl ?_
      refine vr_iald (j := k) q5 pf_219_191 (ws_240 hW) (by omega) (by omega) (by decide) (fun x6 hx6 rx6 => ?_)
      rw [q5.2.2 240 (by decide)] at hx6
      rw [hca] at hx6
      refine vr_iast (j := (900 * n + 208 + 2 * k + 1)) hW q5 pf_219_192 (ws_230 hW) (by omega) (by omega) (by decide) rx6 (by decide) (fun M7 eM7 q8 => ?_)
      refine rr_iinc pf_219_193 rfl (fun y => [.ref 228, .int (iI (p_)), .int (iI (y))]) (fun _ => rfl) (fun y9 hy9 => ?_)
      refine rr_goto 145 pf_219_196 (by decide) ?_
      obtain ⟨nz10, hnz10, rfl⟩ : ∃ zz : Nat, zz = 1 + k ∧ y9 = ((zz : Nat) : Int) := ⟨1 + k, rfl, by omega⟩
      exact ih _ (by omega) nz10 M7 rfl q8 (by omega) (by rw [show nz10 = k + 1 by omega, cpC_s, ← hz, up_fup eM7, up_fup eM4, hx3, hx6])
theorem lp_R_law0_110 {xs : Nat → Int} {L d : Nat} {sh : List (Nat × Nat)} (hd : 11 ≤ d) (hW : px_W0 <+: sh) {M0 : Nat → Nat → Int}  {n nl : Nat} {c : Nat → Int} (hn6 : n < 6) (hnl2 : nl ≤ 12) {p_ : Int} (hp_ : p_ = 110 + 900 * ((n : Nat) : Int)) (hc1 : M0 228 21 = ((nl : Nat) : Int)) (hcc : M0 238 = c)  {Q : Option Value → px_H → Prop} (kx : ∀ (k : Nat) (M : Nat → Nat → Int), px_qk sh [230] M0 M → (M 230 = cpW (M0 230) (900 * n + 112) c (8 * nl)) → px_R xs L d 219 (143, [.ref 228, .int (iI (p_)), .int (iI (((k : Nat) : Int)))], [], (sh, M)) Q)  : ∀ (mz : Nat) (k : Nat) (M : Nat → Nat → Int), 8 * nl - k = mz → px_qk sh [230] M0 M → (k ≤ 8 * nl) → (M 230 = cpW (M0 230) (900 * n + 112) c k) → px_R xs L d 219 (110, [.ref 228, .int (iI (p_)), .int (iI (((k : Nat) : Int)))], [], (sh, M)) Q := by
  intro mz
  induction mz using Nat.strongRecOn with
  | _ mz ih =>
    intro k M hm hq hk hz
    have hq1 : M 228 21 = ((nl : Nat) : Int) := by rw [hq.2.2 228 (by decide)]; exact hc1
    have hq2 : M 238 = c := by rw [hq.2.2 238 (by decide)]; exact hcc
    refine rr_iload_n pf_219_110 rfl ?_
    refine rr_bipush pf_219_111 (by decide) ?_
    refine rr_aload_n pf_219_113 rfl ?_
    refine vr_getI hq pf_219_114 po_219 pg_9_407 rfl (ws_228 hW) (by decide) (fun x1 hx1 rx1 => ?_)
    rw [hq.2.2 228 (by decide)] at hx1
    rw [hc1] at hx1
    refine rr_imul pf_219_117 ?_
    refine rr_icmp_ge 143 pf_219_118 (by decide) (by unfold rg; omega) (by unfold rg; omega) (fun c2 => ?_) (fun c2 => ?_)
    · exact kx k M hq (by rw [hz, show k = 8 * nl by omega])
    · refine rr_aload_n pf_219_121 rfl ?_
      refine rr_getR pf_219_122 po_219 pg_9_13 rfl (ws_228 hW) (by decide) (wr_228_3 hq.1) ?_
      refine rr_iload_n pf_219_125 rfl ?_
      refine rr_iconst pf_219_126 ?_
      refine rr_iadd pf_219_127 ?_
      refine rr_iload_n pf_219_128 rfl ?_
      refine rr_iadd pf_219_129 ?_
      refine rr_aload_n pf_219_130 rfl ?_
      refine rr_getR pf_219_131 po_219 pg_9_42 rfl (ws_228 hW) (by decide) (wr_228_22 hq.1) ?_
      refine rr_iload_n pf_219_134 rfl ?_
      refine vr_iald (j := k) hq pf_219_135 (ws_238 hW) (by omega) (by omega) (by decide) (fun x3 hx3 rx3 => ?_)
      rw [hq.2.2 238 (by decide)] at hx3
      rw [hcc] at hx3
      refine vr_iast (j := (900 * n + 112 + k)) hW hq pf_219_136 (ws_230 hW) (by omega) (by omega) (by decide) rx3 (by decide) (fun M4 eM4 q5 => ?_)
      refine rr_iinc pf_219_137 rfl (fun y => [.ref 228, .int (iI (p_)), .int (iI (y))]) (fun _ => rfl) (fun y6 hy6 => ?_)
      refine rr_goto 110 pf_219_140 (by decide) ?_
      obtain ⟨nz7, hnz7, rfl⟩ : ∃ zz : Nat, zz = 1 + k ∧ y6 = ((zz : Nat) : Int) := ⟨1 + k, rfl, by omega⟩
      exact ih _ (by omega) nz7 M4 rfl q5 (by omega) (by rw [show nz7 = k + 1 by omega, cpW_s, ← hz, up_fup eM4, hx3])
theorem lp_R_law0_37 {xs : Nat → Int} {L d : Nat} {sh : List (Nat × Nat)} (hd : 11 ≤ d) (hW : px_W0 <+: sh) {M0 : Nat → Nat → Int}  {E : rdE} {lw : Nat → Int} (hlwB : ∀ k, k < 4 → M0 245 k = lw k ∧ 0 ≤ lw k ∧ lw k ≤ 1125899906842624) {R : lwQ} {Q : Option Value → px_H → Prop} (kx : ∀ (z : lwQ) (n : Nat) (v1 : Value) (v2 : Value) (M : Nat → Nat → Int), px_qk sh [228, 238, 239, 240, 241, 242] M0 M → (fz [0, 1, 13, 14, 15, 16, 17, 18, 19, 20, 21, 23, 26, 29, 30] M0 M) → (RT M E R.1.i R.1) → (M 228 21 = ((R.2.1 : Nat) : Int)) → (M 238 = R.2.2) → (R.2.1 ≤ 12) → (R.1.flt = 0 ∨ R.1.flt = 1) → px_R xs L d 219 (64, [.ref 228, v1, v2], [], (sh, M)) Q)  : ∀ (mz : Nat) (z : lwQ) (n : Nat) (v1 : Value) (v2 : Value) (M : Nat → Nat → Int), n = mz → px_qk sh [228, 238, 239, 240, 241, 242] M0 M → (fz [0, 1, 13, 14, 15, 16, 17, 18, 19, 20, 21, 23, 26, 29, 30] M0 M) → (RT M E z.1.i z.1) → (M 228 21 = ((z.2.1 : Nat) : Int)) → (M 238 = z.2.2) → (z.2.1 ≤ 12) → (z.1.flt = 0 ∨ z.1.flt = 1) → (z.1.flt = 0 → E.tn + 1 ≤ n + z.1.i) → (lwR E (lwT E lw) n z = R) → px_R xs L d 219 (37, [.ref 228, v1, v2], [], (sh, M)) Q := by
  intro mz
  induction mz using Nat.strongRecOn with
  | _ mz ih =>
    intro z n v1 v2 M hm hq hrq hS h21 hC hnl hf1 hn hR
    refine rr_aload_n pf_219_37 rfl ?_
    refine vr_getZ hq pf_219_38 po_219 pg_9_276 rfl (ws_228 hW) (by decide) (fun x1 hx1 rx1 => ?_)
    rw [hS.h19] at hx1
    refine rr_if_ne 64 pf_219_41 (by decide) rx1 (fun c2 => ?_) (fun c2 => ?_)
    · exact kx z n _ _ M hq (hrq) (by rw [← hR, lwR_e (by omega)]; exact hS) (by rw [← hR, lwR_e (by omega)]; exact h21) (by rw [← hR, lwR_e (by omega)]; exact hC) (by rw [← hR, lwR_e (by omega)]; exact hnl) (by rw [← hR, lwR_e (by omega)]; exact hf1)
    · refine rr_aload_n pf_219_44 rfl ?_
      refine rr_bipush pf_219_45 (by decide) ?_
      obtain ⟨M3, kq4, hcM3⟩ := ct_RT_isSign (xs := xs) (L := L) (d := d) (u := 59) (E := E) (s := z.1) (b := z.1.i) (by omega) hW hq.1 hq.2.1 hS (by unfold rg; omega)
      obtain rfl := qk_nil kq4
      refine rr_cV1 pf_219_47 po_219 pc_9_347 (ws_228 hW) po_231 (by decide) rfl hcM3 ?_
      refine rr_ifb_eq 64 pf_219_50 (by decide) (fun c6 => ?_) (fun c6 => ?_)
      · exact kx z n _ _ M hq (hrq) (by rw [← hR, lwR_e (by omega)]; exact hS) (by rw [← hR, lwR_e (by omega)]; exact h21) (by rw [← hR, lwR_e (by omega)]; exact hC) (by rw [← hR, lwR_e (by omega)]; exact hnl) (by rw [← hR, lwR_e (by omega)]; exact hf1)
      · have hfz : z.1.flt = 0 := by omega
        have hsemi : z.1.flt = 0 ∧ rK E z.1 = 3 ∧ rW E z.1 = 59 := by omega
        refine rr_aload_n pf_219_53 rfl ?_
        obtain ⟨M7, ⟨kq8, pS_M7, pf_M7⟩, hcM7⟩ := ct_RT_next (xs := xs) (L := L) (d := d) (E := E) (s := z.1) (b := z.1.i) (by omega) hW hq.1 hq.2.1 hS
        have q8 := qk_trm hq kq8 (by decide)
        have rq10 := fz_tr hrq pf_M7 (by decide)
        refine rr_cV0 pf_219_54 po_219 pc_9_280 (ws_228 hW) po_222 (by decide) rfl hcM7 ?_
        have hsn := RT_nb hS.hi hS.hnb pS_M7
        have hk21 : M7 228 21 = ((z.2.1 : Nat) : Int) := (pf_M7 21 (by decide)).trans h21
        have hkC : M7 238 = z.2.2 := (kq8.2.2 238 (by decide)).trans hC
        
        refine rr_aload_n pf_219_57 rfl ?_
        obtain ⟨M11, ⟨kq12, pS_M11, p21_M11, pC_M11, pf_M11⟩, hcM11⟩ := ct_R_readLaw (xs := xs) (L := L) (d := d) (E := E) (s := (nxS E z.1)) (nl := z.2.1) (lw := lw) (by omega) hW q8.1 q8.2.1 hsn hfz hk21 hnl (by rw [q8.2.2 245 (by decide)]; exact hlwB)
        have q12 := qk_trm q8 kq12 (by decide)
        have rq14 := fz_tr rq10 pf_M11 (by decide)
        refine rr_cV0 pf_219_58 po_219 pc_9_418 (ws_228 hW) po_225 (by decide) rfl hcM11 ?_
        have hSn : RT M11 E (lwT E lw (lwN E z)).1.i (lwT E lw (lwN E z)).1 := pS_M11
        have h21n : M11 228 21 = (((lwT E lw (lwN E z)).2.1 : Nat) : Int) := p21_M11
        have hCn : M11 238 = (lwT E lw (lwN E z)).2.2 := by rw [pC_M11, hkC]; rfl
        have hpz := p2_lwT (E := E) (lw := lw) (z := lwN E z) hsn.hi
        have hf1n : (lwT E lw (lwN E z)).1.flt = 0 ∨ (lwT E lw (lwN E z)).1.flt = 1 := by
          rcases hpz.2.2 with h | h
          · exact Or.inl (h.trans hfz)
          · exact Or.inr h
        obtain ⟨n2, rfl⟩ : ∃ y, n = y + 1 := ⟨n - 1, by have := hn hfz; have := hS.hi; omega⟩
        have hRn : lwR E (lwT E lw) n2 (lwT E lw (lwN E z)) = R := by rw [lwR, if_pos hsemi] at hR; exact hR
        have hnn : E.tn + 1 ≤ n2 + (lwT E lw (lwN E z)).1.i := by have h1 := hn hfz; have h2 := hpz.1; have h3 : z.1.i + 1 ≤ (nxS E z.1).i := tkE_1 hS.hi (show rK E z.1 ≠ 0 by omega); have h4 : (lwN E z).1.i = (nxS E z.1).i := rfl; omega
        
        refine rr_goto 37 pf_219_61 (by decide) ?_
        exact ih _ (by omega) (lwT E lw (lwN E z)) n2 _ _ M11 rfl q12 (rq14) (hSn) (h21n) (hCn) (lwT_n hnl) (hf1n) (fun _ => hnn) (hRn)
theorem ct_R_law0 {xs : Nat → Int} {L d : Nat} {sh : List (Nat × Nat)} {M0 : Nat → Nat → Int} (hd : 12 ≤ d) (hW : px_W0 <+: sh) (hF : px_Fx M0) (hG : px_RG sh M0)  {E : rdE} (h13 : M0 228 13 = ((E.tn : Nat) : Int)) (htn : E.tn ≤ 400) (h237 : M0 237 = E.tb) (htb : ∀ j, 0 ≤ E.tb j ∧ E.tb j ≤ 255) (hod : E.od = 0 ∨ E.od = 1) (h243 : ∀ k, k < 12 → M0 243 k = E.f k ∧ 0 ≤ E.f k ∧ E.f k ≤ 1125899906842624) (h244 : ∀ k, k < 9 → M0 244 k = E.g k ∧ 0 ≤ E.g k ∧ E.g k ≤ 1125899906842624) (hod0 : E.od = 0) (hrf : ∀ j, j < 7 → 0 ≤ M0 229 j ∧ M0 229 j ≤ 1000000000) {n : Nat} (hn3 : M0 230 3 = ((n : Nat) : Int)) (hn6 : n < 6) {lw : Nat → Int} (hlw : ∀ k, k < 4 → M0 245 k = lw k ∧ 0 ≤ lw k ∧ lw k ≤ 1125899906842624) : ∃ v M, (px_qk sh [228, 229, 230, 238, 239, 240, 241, 242] M0 M ∧ (∃ Z, Z = lwR E (lwT E lw) 401 (lwT E lw (rB0 (M0 239) (M0 240), 0, M0 238)) ∧ v = (if Z.1.flt = 0 ∧ rK E Z.1 = 0 then ((n : Nat) : Int) else -6) ∧ M 230 = (if Z.1.flt = 0 ∧ rK E Z.1 = 0 then lwX (M0 230) n Z.2.1 Z.2.2 Z.1.nc Z.1.o Z.1.a else M0 230) ∧ M 228 18 = (if Z.1.flt = 0 ∧ rK E Z.1 ≠ 0 then ((tkS E.tn E.tb Z.1.i : Nat) : Int) else Z.1.bad) ∧ Z.2.1 ≤ 12 ∧ Z.1.nc ≤ 400) ∧ (M 228 13 = 0) ∧ (M 228 20 = 0) ∧ (M 228 1 = if v < 0 then v else 0) ∧ (M 229 = bmp (M0 229) v) ∧ (fz [0, 1, 13, 14, 15, 16, 17, 18, 19, 20, 21, 23, 26, 29, 30] M0 M)) ∧ px_Cl xs L d 219 [.ref 228] (sh, M0) (some (.int (iI v))) (sh, M) := by
  obtain ⟨d, rfl⟩ : ∃ e, d = e + 1 := ⟨d - 1, by omega⟩
  have q0 : px_qk sh [228, 229, 230, 238, 239, 240, 241, 242] M0 M0 := ⟨hF, hG, eo_rf⟩
  refine vc_i (Nat.le_of_ble_eq_true rfl) ?_
  show px_R xs L d 219 (0, [.ref 228, px_jk, px_jk], [], (sh, M0)) (fun r h' => ∃ v M', r = some (.int (iI v)) ∧ h' = (sh, M') ∧ px_qk sh [228, 229, 230, 238, 239, 240, 241, 242] M0 M' ∧ (∃ Z, Z = lwR E (lwT E lw) 401 (lwT E lw (rB0 (M0 239) (M0 240), 0, M0 238)) ∧ v = (if Z.1.flt = 0 ∧ rK E Z.1 = 0 then ((n : Nat) : Int) else -6) ∧ M' 230 = (if Z.1.flt = 0 ∧ rK E Z.1 = 0 then lwX (M0 230) n Z.2.1 Z.2.2 Z.1.nc Z.1.o Z.1.a else M0 230) ∧ M' 228 18 = (if Z.1.flt = 0 ∧ rK E Z.1 ≠ 0 then ((tkS E.tn E.tb Z.1.i : Nat) : Int) else Z.1.bad) ∧ Z.2.1 ≤ 12 ∧ Z.1.nc ≤ 400) ∧ M' 228 13 = 0 ∧ M' 228 20 = 0 ∧ (M' 228 1 = if v < 0 then v else 0) ∧ M' 229 = bmp (M0 229) v ∧ fz [0, 1, 13, 14, 15, 16, 17, 18, 19, 20, 21, 23, 26, 29, 30] M0 M')
  refine rr_aload_n pf_219_0 rfl ?_
  refine rr_iconst pf_219_1 ?_
  refine vr_putI hW q0 pf_219_2 po_219 pg_9_177 (Or.inl rfl) rfl (ws_228 hW) (by decide) (by unfold rg; omega) (by decide) (fun M1 eM1 q2 => ?_)
  have rq3 := fz_up (fz_rf [0, 1, 13, 14, 15, 16, 17, 18, 19, 20, 21, 23, 26, 29, 30] M0) eM1 (by decide)
  have e4 : M1 229 = M0 229 := (show M1 229 = M0 229 by rw [eM1, ask_ne (by decide)]).trans (rfl : M0 229 = M0 229)
  have e5 : M1 230 = M0 230 := (show M1 230 = M0 230 by rw [eM1, ask_ne (by decide)]).trans (rfl : M0 230 = M0 230)
  refine rr_aload_n pf_219_5 rfl ?_
  refine rr_getR pf_219_6 po_219 pg_9_13 rfl (ws_228 hW) (by decide) (wr_228_3 q2.1) ?_
  refine rr_iconst pf_219_9 ?_
  refine vr_iald (j := 3) q2 pf_219_10 (ws_230 hW) (by omega) (by omega) (by decide) (fun x6 hx6 rx6 => ?_)
  rw [e5] at hx6
  rw [hn3] at hx6
  refine rr_bipush pf_219_11 (by decide) ?_
  refine rr_icmp_ne 28 pf_219_13 (by decide) rx6 (by unfold rg; omega) (fun c7 => ?_) (fun c7 => ?_)
  · refine rr_aload_n pf_219_28 rfl ?_
    refine rr_iconst pf_219_29 ?_
    obtain ⟨M8, ⟨kq9, pS_M8, p21_M8, pf_M8⟩, hcM8⟩ := ct_R_beginText (xs := xs) (L := L) (d := d) (u := 0) (E := E) (by omega) hW q2.1 q2.2.1 (by rw [eM1, up_ne (by decide)]; exact h13) htn (by rw [eM1, ask_ne (by decide)]; exact h237) htb (by omega) (by rw [eM1, ask_ne (by decide)]; exact h243) (by rw [eM1, ask_ne (by decide)]; exact h244) (by omega)
    have q9 := qk_trm q2 kq9 (by decide)
    have rq11 := fz_tr rq3 pf_M8 (by decide)
    have e12 : M8 229 = M0 229 := (kq9.2.2 229 (by decide)).trans e4
    have e13 : M8 230 = M0 230 := (kq9.2.2 230 (by decide)).trans e5
    refine rr_cV1 pf_219_30 po_219 pc_9_415 (ws_228 hW) po_220 (by decide) rfl hcM8 ?_
    rw [eM1, ask_ne (by decide), ask_ne (by decide)] at pS_M8
    have hk238 : M8 238 = M0 238 := by rw [kq9.2.2 238 (by decide), eM1, ask_ne (by decide)]
    
    refine rr_aload_n pf_219_33 rfl ?_
    obtain ⟨M14, ⟨kq15, pS_M14, p21_M14, pC_M14, pf_M14⟩, hcM14⟩ := ct_R_readLaw (xs := xs) (L := L) (d := d) (E := E) (s := (rB0 (M0 239) (M0 240))) (nl := 0) (lw := lw) (by omega) hW q9.1 q9.2.1 pS_M8 rfl p21_M8 (by decide) (by rw [q9.2.2 245 (by decide)]; exact hlw)
    have q15 := qk_trm q9 kq15 (by decide)
    have rq17 := fz_tr rq11 pf_M14 (by decide)
    have e18 : M14 229 = M0 229 := (kq15.2.2 229 (by decide)).trans e12
    have e19 : M14 230 = M0 230 := (kq15.2.2 230 (by decide)).trans e13
    refine rr_cV0 pf_219_34 po_219 pc_9_418 (ws_228 hW) po_225 (by decide) rfl hcM14 ?_
    have hs0 : RT M14 E (lwT E lw (rB0 (M0 239) (M0 240), 0, M0 238)).1.i (lwT E lw (rB0 (M0 239) (M0 240), 0, M0 238)).1 := pS_M14
    have h210 : M14 228 21 = (((lwT E lw (rB0 (M0 239) (M0 240), 0, M0 238)).2.1 : Nat) : Int) := p21_M14
    have hC0 : M14 238 = (lwT E lw (rB0 (M0 239) (M0 240), 0, M0 238)).2.2 := by rw [pC_M14, hk238]; rfl
    have hnl0 : (lwT E lw (rB0 (M0 239) (M0 240), 0, M0 238)).2.1 ≤ 12 := lwT_n (Nat.zero_le _)
    have hf0 : (lwT E lw (rB0 (M0 239) (M0 240), 0, M0 238)).1.flt = 0 ∨ (lwT E lw (rB0 (M0 239) (M0 240), 0, M0 238)).1.flt = 1 := by
      rcases (p2_lwT (E := E) (lw := lw) (z := (rB0 (M0 239) (M0 240), 0, M0 238)) (Nat.zero_le _)).2.2 with h | h
      · exact Or.inl h
      · exact Or.inr h
    obtain ⟨Z0, hZ0⟩ : ∃ y, y = lwT E lw (rB0 (M0 239) (M0 240), 0, M0 238) := ⟨_, rfl⟩
    rw [← hZ0] at hs0 h210 hC0 hnl0 hf0
    
    have hlwB : ∀ k, k < 4 → M14 245 k = lw k ∧ 0 ≤ lw k ∧ lw k ≤ 1125899906842624 := by rw [q15.2.2 245 (by decide)]; exact hlw
    refine lp_R_law0_37 (xs := xs) (L := L) (d := d) (by omega) hW hlwB (fun z_20 n_21 v24 v25 M22 q23 xrq_M22 xS_M22 x21_M22 xC_M22 xn_M22 xf_M22 => ?_) _ Z0 401 _ _ M14 rfl ⟨q15.1, q15.2.1, eo_rf⟩ ((fz_rf [0, 1, 13, 14, 15, 16, 17, 18, 19, 20, 21, 23, 26, 29, 30] _)) (hs0) (h210) (hC0) (hnl0) (hf0) (by intro _; have := hs0.htn; omega) (by rfl)
    have q26 := qk_trm q15 q23 (by decide)
    have rq27 := fz_tr rq17 xrq_M22 (by decide)
    have e28 : M22 229 = M0 229 := (q23.2.2 229 (by decide)).trans e18
    have e29 : M22 230 = M0 230 := (q23.2.2 230 (by decide)).trans e19
    obtain ⟨Z, hZ⟩ : ∃ y, y = lwR E (lwT E lw) 401 Z0 := ⟨_, rfl⟩
    rw [← hZ] at xS_M22 x21_M22 xC_M22 xn_M22 xf_M22
    
    refine rr_aload_n pf_219_64 rfl ?_
    obtain ⟨M30, ⟨kq31, p19_M30, p18_M30, p13_M30, p20_M30, pf_M30⟩, hcM30⟩ := ct_R_endText (xs := xs) (L := L) (d := d) (E := E) (s := Z.1) (by omega) hW q26.1 q26.2.1 xS_M22 xf_M22
    have q31 := qk_trm q26 kq31 (by decide)
    have rq33 := fz_tr rq27 pf_M30 (by decide)
    have e34 : M30 229 = M0 229 := (kq31.2.2 229 (by decide)).trans e28
    have e35 : M30 230 = M0 230 := (kq31.2.2 230 (by decide)).trans e29
    refine rr_cV0 pf_219_65 po_219 pc_9_421 (ws_228 hW) po_245 (by decide) rfl hcM30 ?_
    have hk21 : M30 228 21 = ((Z.2.1 : Nat) : Int) := (pf_M30 21 (by decide)).trans x21_M22
    have hk23 : M30 228 23 = ((Z.1.nc : Nat) : Int) := (pf_M30 23 (by decide)).trans xS_M22.h23
    have hkC : M30 238 = Z.2.2 := (kq31.2.2 238 (by decide)).trans xC_M22
    have hko : M30 239 = Z.1.o := (kq31.2.2 239 (by decide)).trans xS_M22.h239
    have hka : M30 240 = Z.1.a := (kq31.2.2 240 (by decide)).trans xS_M22.h240
    have hncb : Z.1.nc ≤ 400 := Nat.le_trans xS_M22.hnb xS_M22.hb
    have hnl2 := xn_M22
    have hzf := xf_M22
    
    refine rr_aload_n pf_219_68 rfl ?_
    refine vr_getZ q31 pf_219_69 po_219 pg_9_276 rfl (ws_228 hW) (by decide) (fun x36 hx36 rx36 => ?_)
    rw [p19_M30] at hx36
    have hb19 : (Z.1.flt = 0 ∧ rK E Z.1 = 0) ∨ ¬ (Z.1.flt = 0 ∧ rK E Z.1 = 0) := Decidable.em _
    refine rr_if_eq 82 pf_219_72 (by decide) rx36 (fun c37 => ?_) (fun c37 => ?_)
    · refine rr_bipush pf_219_82 (by decide) ?_
      refine rr_sipush pf_219_84 (by decide) ?_
      refine rr_aload_n pf_219_87 rfl ?_
      refine rr_getR pf_219_88 po_219 pg_9_13 rfl (ws_228 hW) (by decide) (wr_228_3 q31.1) ?_
      refine rr_iconst pf_219_91 ?_
      refine vr_iald (j := 3) q31 pf_219_92 (ws_230 hW) (by omega) (by omega) (by decide) (fun x38 hx38 rx38 => ?_)
      rw [e35] at hx38
      rw [hn3] at hx38
      refine rr_imul pf_219_93 ?_
      refine rr_iadd pf_219_94 ?_
      refine rr_istore_n pf_219_95 (fun y => [.ref 228, .int (iI (y)), v25]) (Nat.le_of_ble_eq_true rfl) (fun _ => rfl) (fun y39 hy39 => ?_)
      refine rr_aload_n pf_219_96 rfl ?_
      refine rr_getR pf_219_97 po_219 pg_9_13 rfl (ws_228 hW) (by decide) (wr_228_3 q31.1) ?_
      refine rr_iload_n pf_219_100 rfl ?_
      refine rr_iconst pf_219_101 ?_
      refine rr_iadd pf_219_102 ?_
      refine rr_aload_n pf_219_103 rfl ?_
      refine vr_getI q31 pf_219_104 po_219 pg_9_407 rfl (ws_228 hW) (by decide) (fun x40 hx40 rx40 => ?_)
      rw [hk21] at hx40
      refine vr_iast (j := (900 * n + 111)) hW q31 pf_219_107 (ws_230 hW) (by omega) (by omega) (by decide) rx40 (by decide) (fun M41 eM41 q42 => ?_)
      have rq43 := fz_ne rq33 eM41 (by decide)
      have e44 : M41 229 = M0 229 := (show M41 229 = M30 229 by rw [eM41, ask_ne (by decide)]).trans e34
      refine rr_iconst pf_219_108 ?_
      refine rr_istore_n pf_219_109 (fun y => [.ref 228, .int (iI (y39)), .int (iI (y))]) (Nat.le_of_ble_eq_true rfl) (fun _ => rfl) (fun y45 hy45 => ?_)
      obtain ⟨nz46, hnz46, rfl⟩ : ∃ zz : Nat, zz = 0 ∧ y45 = ((zz : Nat) : Int) := ⟨0, rfl, by omega⟩
      have hc1 : M41 228 21 = ((Z.2.1 : Nat) : Int) := by rw [eM41, ask_ne (by decide)]; exact hk21
      have hcc : M41 238 = Z.2.2 := by rw [eM41, ask_ne (by decide)]; exact hkC
      have hp_ : y39 = 110 + 900 * ((n : Nat) : Int) := by omega
      refine lp_R_law0_110 (xs := xs) (L := L) (d := d) (by omega) hW hn6 hnl2 hp_ hc1 hcc (fun k_47  M48 q49 xz_M48 => ?_) _ nz46 M41 rfl ⟨q42.1, q42.2.1, eo_rf⟩ (by omega) (by rw [show nz46 = 0 by omega, cpW_0])
      have q50 := qk_trm q42 q49 (by decide)
      have rq51 := fz_q rq43 q49 (by decide)
      have e52 : M48 229 = M0 229 := (q49.2.2 229 (by decide)).trans e44
      
      refine rr_iconst pf_219_143 ?_
      refine rr_istore_n pf_219_144 (fun y => [.ref 228, .int (iI (y39)), .int (iI (y))]) (Nat.le_of_ble_eq_true rfl) (fun _ => rfl) (fun y53 hy53 => ?_)
      obtain ⟨nz54, hnz54, rfl⟩ : ∃ zz : Nat, zz = 0 ∧ y53 = ((zz : Nat) : Int) := ⟨0, rfl, by omega⟩
      have hc3 : M48 228 23 = ((Z.1.nc : Nat) : Int) := by rw [q49.2.2 228 (by decide), eM41, ask_ne (by decide)]; exact hk23
      have hco : M48 239 = Z.1.o := (q49.2.2 239 (by decide)).trans (show M41 239 = _ by rw [eM41, ask_ne (by decide)]; exact hko)
      have hca : M48 240 = Z.1.a := (q49.2.2 240 (by decide)).trans (show M41 240 = _ by rw [eM41, ask_ne (by decide)]; exact hka)
      refine lp_R_law0_145 (xs := xs) (L := L) (d := d) (by omega) hW hn6 hncb hp_ hc3 hco hca (fun k_55  M56 q57 xz_M56 => ?_) _ nz54 M48 rfl ⟨q50.1, q50.2.1, eo_rf⟩ (by omega) (by rw [show nz54 = 0 by omega, cpC_0])
      have q58 := qk_trm q50 q57 (by decide)
      have rq59 := fz_q rq51 q57 (by decide)
      have e60 : M56 229 = M0 229 := (q57.2.2 229 (by decide)).trans e52
      
      refine rr_aload_n pf_219_199 rfl ?_
      refine rr_getR pf_219_200 po_219 pg_9_13 rfl (ws_228 hW) (by decide) (wr_228_3 q58.1) ?_
      refine rr_iconst pf_219_203 ?_
      refine rr_dup2 pf_219_204 rfl rfl ?_
      refine vr_iald (j := 3) q58 pf_219_205 (ws_230 hW) (by omega) (by omega) (by decide) (fun x61 hx61 rx61 => ?_)
      rw [xz_M56, xz_M48, up_fup eM41, e35] at hx61
      have hz3 : x61 = ((n : Nat) : Int) := by
        rw [hx61]
        unfold cpC
        rw [if_neg (by omega)]
        unfold cpW
        rw [if_neg (by omega)]
        unfold fup
        rw [if_neg (by omega)]
        exact hn3
      refine rr_iconst pf_219_206 ?_
      refine rr_iadd pf_219_207 ?_
      refine vr_iast (j := 3) hW q58 pf_219_208 (ws_230 hW) (by omega) (by omega) (by decide) (by unfold rg; omega) (by decide) (fun M62 eM62 q63 => ?_)
      have rq64 := fz_ne rq59 eM62 (by decide)
      have e65 : M62 229 = M0 229 := (show M62 229 = M56 229 by rw [eM62, ask_ne (by decide)]).trans e60
      refine rr_aload_n pf_219_209 rfl ?_
      refine rr_aload_n pf_219_210 rfl ?_
      refine rr_getR pf_219_211 po_219 pg_9_13 rfl (ws_228 hW) (by decide) (wr_228_3 q63.1) ?_
      refine rr_iconst pf_219_214 ?_
      refine vr_iald (j := 3) q63 pf_219_215 (ws_230 hW) (by omega) (by omega) (by decide) (fun x66 hx66 rx66 => ?_)
      rw [eM62, up_s] at hx66
      refine rr_iconst pf_219_216 ?_
      refine rr_isub pf_219_217 ?_
      obtain ⟨M67, ⟨kq68, taM67, tbM67⟩, hcM67⟩ := ct_R_tell (xs := xs) (L := L) (d := d) (v := x66 - 1) (by omega) hW q63.1 q63.2.1 (by unfold rg; omega) (by omega) (by rw [e65]; exact hrf)
      have q68 := qk_trm q63 kq68 (by decide)
      have rq69 := fz_tell rq64 taM67 (by decide)
      have stM67 : M67 228 1 = if (x66 - 1 : Int) < 0 then x66 - 1 else 0 := by rw [taM67, up_s]
      have rfM67 : M67 229 = bmp (M0 229) (x66 - 1) := by rw [tbM67, e65]; rfl
      refine rr_cV1 pf_219_218 po_219 pc_9_186 (ws_228 hW) po_176 (by decide) rfl hcM67 ?_
      have hok : (Z.1.flt = 0 ∧ rK E Z.1 = 0) := by omega
      refine rr_iret pf_219_221 pt_219 ⟨_, M67, rfl, rfl, q68, (by exact ⟨Z, by rw [hZ, hZ0], by rw [if_pos hok]; omega, by rw [if_pos hok, kq68.2.2 230 (by decide)]; unfold lwX; rw [up_fup eM62, xz_M56, xz_M48, up_fup eM41, e35, hx40]; congr 1; omega, by rw [taM67, up_ne (by decide), eM62, ask_ne (by decide), q57.2.2 228 (by decide), q49.2.2 228 (by decide), eM41, ask_ne (by decide)]; exact p18_M30, hnl2, hncb⟩), (by rw [taM67, up_ne (by decide), eM62, ask_ne (by decide), q57.2.2 228 (by decide), q49.2.2 228 (by decide), eM41, ask_ne (by decide)]; exact p13_M30), (by rw [taM67, up_ne (by decide), eM62, ask_ne (by decide), q57.2.2 228 (by decide), q49.2.2 228 (by decide), eM41, ask_ne (by decide)]; exact p20_M30), (stM67), (rfM67), (rq69)⟩
    · refine rr_aload_n pf_219_75 rfl ?_
      refine rr_bipush pf_219_76 (by decide) ?_
      obtain ⟨M70, ⟨kq71, taM70, tbM70⟩, hcM70⟩ := ct_R_tell (xs := xs) (L := L) (d := d) (v := (-6)) (by omega) hW q31.1 q31.2.1 (by unfold rg; omega) (by omega) (by rw [e34]; exact hrf)
      have q71 := qk_trm q31 kq71 (by decide)
      have rq72 := fz_tell rq33 taM70 (by decide)
      have stM70 : M70 228 1 = if ((-6) : Int) < 0 then (-6) else 0 := by rw [taM70, up_s]
      have rfM70 : M70 229 = bmp (M0 229) (-6) := by rw [tbM70, e34]; rfl
      have e230M70 : M70 230 = M0 230 := (kq71.2.2 230 (by decide)).trans e35
      refine rr_cV1 pf_219_78 po_219 pc_9_186 (ws_228 hW) po_176 (by decide) rfl hcM70 ?_
      have hok : ¬ (Z.1.flt = 0 ∧ rK E Z.1 = 0) := by omega
      refine rr_iret pf_219_81 pt_219 ⟨_, M70, rfl, rfl, q71, (by exact ⟨Z, by rw [hZ, hZ0], by rw [if_neg hok], by rw [if_neg hok]; exact e230M70, by rw [taM70, up_ne (by decide)]; exact p18_M30, hnl2, hncb⟩), (by rw [taM70, up_ne (by decide)]; exact p13_M30), (by rw [taM70, up_ne (by decide)]; exact p20_M30), (stM70), (rfM70), (rq72)⟩
  · exfalso; omega

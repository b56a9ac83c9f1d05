/-! the reference: rows, years -/
abbrev rwOK (tn : Nat) (tb : Nat → Int) (k : Nat) : Prop := k + 3 < tn ∧ (0 ≤ tb k ∧ tb k ≤ 15) ∧ (0 ≤ tb (k + 1) ∧ tb (k + 1) ≤ 99) ∧ (0 ≤ tb (k + 2) ∧ tb (k + 2) ≤ 99) ∧ (0 ≤ tb (k + 3) ∧ tb (k + 3) ≤ 99)
def rwd (tn : Nat) (tb : Nat → Int) (k : Nat) : Bool := decide (rwOK tn tb k)
theorem rwd_t {tn : Nat} {tb : Nat → Int} {k : Nat} (h : rwOK tn tb k) : rwd tn tb k = true := by unfold rwd; exact decide_eq_true h
theorem rwd_f {tn : Nat} {tb : Nat → Int} {k : Nat} (h : ¬ rwOK tn tb k) : rwd tn tb k = false := by unfold rwd; exact decide_eq_false h
def rup3 (ρ : Nat → Int) (p : Int) (a b c : Int) : Nat → Int := rup (rup (rup ρ (9 + 3 * p.toNat) a) (9 + 3 * p.toNat + 1) b) (9 + 3 * p.toNat + 2) c
def rwR (tn : Nat) (tb : Nat → Int) (ρ : Nat → Int) : Nat → Nat → Int
  | 0 => ρ
  | i + 1 => if rwd tn tb (4 * i) = true then rup3 (rwR tn tb ρ i) (tb (4 * i)) (tb (4 * i + 1)) (tb (4 * i + 2)) (tb (4 * i + 3)) else rwR tn tb ρ i
def rwC (tn : Nat) (tb : Nat → Int) : Nat → Int
  | 0 => 0
  | i + 1 => rwC tn tb i + (if rwd tn tb (4 * i) = true then 1 else 0)
theorem rwC_b (tn : Nat) (tb : Nat → Int) (i : Nat) : 0 ≤ rwC tn tb i ∧ rwC tn tb i ≤ i := by
  induction i with
  | zero => simp [rwC]
  | succ i ih => simp only [rwC]; split <;> omega
theorem rwR_n {tn : Nat} {tb : Nat → Int} {ρ : Nat → Int} {j : Nat} (hj : j < 9 ∨ 57 ≤ j) : ∀ i, rwR tn tb ρ i j = ρ j := by
  intro i
  induction i with
  | zero => rfl
  | succ i ih =>
    simp only [rwR]
    split
    · rename_i h
      have hp : rwOK tn tb (4 * i) := Decidable.byContradiction (fun z => by rw [rwd_f z] at h; cases h)
      unfold rup3
      have := hp.2.1
      rw [rup_n (by omega), rup_n (by omega), rup_n (by omega)]
      exact ih
    · exact ih
theorem ok_rup3 {ρ : Nat → Int} (h : sp_ok ρ) {p a b c : Int} (hp : 0 ≤ p ∧ p ≤ 15) (ha : 0 ≤ a ∧ a ≤ 99) (hb : 0 ≤ b ∧ b ≤ 99) (hc : 0 ≤ c ∧ c ≤ 99) : sp_ok (rup3 ρ p a b c) := by
  unfold rup3
  have h1 := ok_hue h (i := 3 * p.toNat) (by omega) ha
  have h2 := ok_hue h1 (i := 3 * p.toNat + 1) (by omega) hb
  have h3 := ok_hue h2 (i := 3 * p.toNat + 2) (by omega) hc
  exact h3
theorem ok_rw {tn : Nat} {tb : Nat → Int} {ρ : Nat → Int} (h : sp_ok ρ) : ∀ i, sp_ok (rwR tn tb ρ i) := by
  intro i
  induction i with
  | zero => exact h
  | succ i ih =>
    simp only [rwR]
    split
    · rename_i hd
      have hp : rwOK tn tb (4 * i) := Decidable.byContradiction (fun z => by rw [rwd_f z] at hd; cases hd)
      exact ok_rup3 ih hp.2.1 hp.2.2.1 hp.2.2.2.1 hp.2.2.2.2
    · exact ih
def rwN (tn : Nat) : Nat := (tn + 3) / 4
theorem ct_R_row0 {xs : Nat → Int} {L d : Nat} {sh : List (Nat × Nat)} {M0 : Nat → Nat → Int} (hd : 3 ≤ d) (hW : px_W0 <+: sh) (hF : px_Fx M0) (hG : px_RG sh M0)  (hrf : ∀ j, j < 7 → 0 ≤ M0 229 j ∧ M0 229 j ≤ 1000000000) (h13 : M0 228 13 = 0) : ∃ v M, (px_qk sh [228, 229] M0 M ∧ (v = -6) ∧ (M 228 1 = -6) ∧ (M 229 = bmp (M0 229) (-6)) ∧ (M 228 13 = 0) ∧ (rz [1, 13] M0 M)) ∧ px_Cl xs L d 213 [.ref 228] (sh, M0) (some (.int (iI v))) (sh, M) := by
  obtain ⟨d, rfl⟩ : ∃ e, d = e + 1 := ⟨d - 1, by omega⟩
  have q0 : px_qk sh [228, 229] M0 M0 := ⟨hF, hG, eo_rf⟩
  refine vc_i (Nat.le_of_ble_eq_true rfl) ?_
  show px_R xs L d 213 (0, [.ref 228, px_jk, px_jk, px_jk, px_jk], [], (sh, M0)) (fun r h' => ∃ v M', r = some (.int (iI v)) ∧ h' = (sh, M') ∧ px_qk sh [228, 229] M0 M' ∧ v = -6 ∧ M' 228 1 = -6 ∧ M' 229 = bmp (M0 229) (-6) ∧ M' 228 13 = 0 ∧ rz [1, 13] M0 M')
  refine rr_aload_n pf_213_0 rfl ?_
  refine rr_iconst pf_213_1 ?_
  refine vr_putI hW q0 pf_213_2 po_213 pg_9_177 (Or.inl rfl) rfl (ws_228 hW) (by decide) (by unfold rg; omega) (by decide) (fun M1 eM1 q2 => ?_)
  have rq3 := rz_up (rz_rf [1, 13] M0) eM1 (by decide)
  have f4 : M1 228 13 = M0 228 13 := (show M1 228 13 = M0 228 13 by rw [eM1, up_ne (by decide)]).trans (rfl : M0 228 13 = M0 228 13)
  have e5 : M1 229 = M0 229 := (show M1 229 = M0 229 by rw [eM1, ask_ne (by decide)]).trans (rfl : M0 229 = M0 229)
  have e6 : M1 230 = M0 230 := (show M1 230 = M0 230 by rw [eM1, ask_ne (by decide)]).trans (rfl : M0 230 = M0 230)
  refine rr_aload_n pf_213_5 rfl ?_
  refine vr_getI q2 pf_213_6 po_213 pg_9_264 rfl (ws_228 hW) (by decide) (fun x7 hx7 rx7 => ?_)
  rw [f4, h13] at hx7
  refine rr_istore_n pf_213_9 (fun y => [.ref 228, .int (iI (y)), px_jk, px_jk, px_jk]) (Nat.le_of_ble_eq_true rfl) (fun _ => rfl) (fun y8 hy8 => ?_)
  have ry8 : rg y8 := hy8 ▸ rx7
  refine rr_aload_n pf_213_10 rfl ?_
  refine rr_iconst pf_213_11 ?_
  refine vr_putI hW q2 pf_213_12 po_213 pg_9_264 (Or.inl rfl) rfl (ws_228 hW) (by decide) (by unfold rg; omega) (by decide) (fun M9 eM9 q10 => ?_)
  have rq11 := rz_up rq3 eM9 (by decide)
  have e13 : M9 229 = M0 229 := (show M9 229 = M1 229 by rw [eM9, ask_ne (by decide)]).trans e5
  have e14 : M9 230 = M0 230 := (show M9 230 = M1 230 by rw [eM9, ask_ne (by decide)]).trans e6
  refine rr_iload_n pf_213_15 rfl ?_
  refine rr_if_ne 26 pf_213_16 (by decide) ry8 (fun c15 => ?_) (fun c15 => ?_)
  · exfalso; omega
  · refine rr_aload_n pf_213_19 rfl ?_
    refine rr_bipush pf_213_20 (by decide) ?_
    obtain ⟨M16, ⟨kq17, taM16, tbM16⟩, hcM16⟩ := ct_R_tell (xs := xs) (L := L) (d := d) (v := (-6)) (by omega) hW q10.1 q10.2.1 (by unfold rg; omega) (by omega) (by rw [e13]; exact hrf)
    have q17 := qk_trm q10 kq17 (by decide)
    have rq18 := rz_tell rq11 taM16 (by decide)
    have stM16 : M16 228 1 = if ((-6) : Int) < 0 then (-6) else 0 := by rw [taM16, up_s]
    have rfM16 : M16 229 = bmp (M0 229) (-6) := by rw [tbM16, e13]; rfl
    have e19 : M16 230 = M0 230 := (kq17.2.2 230 (by decide)).trans e14
    refine rr_cV1 pf_213_22 po_213 pc_9_186 (ws_228 hW) po_176 (by decide) rfl hcM16 ?_
    refine rr_iret pf_213_25 pt_213 ⟨_, M16, rfl, rfl, q17, (by rfl), (stM16), (rfM16), (by rw [taM16, up_ne (by decide), eM9, up_s]), (rq18)⟩
theorem lp_R_row1_35 {xs : Nat → Int} {L d : Nat} {sh : List (Nat × Nat)} (hd : 2 ≤ d) (hW : px_W0 <+: sh) {M0 : Nat → Nat → Int}  (hρ : sp_ok (rr_ M0)) {tn : Nat} (htn : tn ≤ 400) {Q : Option Value → px_H → Prop} (kx : ∀ (ca : Int) (i : Nat) (v4 : Value) (M : Nat → Nat → Int), px_qk sh [228, 229, 230] M0 M → (rz [1, 8, 11, 13] M0 M) → (tn ≤ 4 * i ∧ 4 * i < tn + 4) → (ca = rwC tn (M0 237) i) → (M 228 11 = (i : Int) - rwC tn (M0 237) i) → (rr_ M = rwR tn (M0 237) (rr_ M0) i) → (r9 M0 M) → (M 229 = M0 229 ∧ M 228 8 = M0 228 8 ∧ M 228 13 = 0) → px_R xs L d 213 (183, [.ref 228, .int (iI (((tn : Nat) : Int))), .int (iI (ca)), .int (iI (((4 * i : Nat) : Int))), v4], [], (sh, M)) Q)  : ∀ (mz : Nat) (ca : Int) (i : Nat) (v4 : Value) (M : Nat → Nat → Int), 101 - i = mz → px_qk sh [228, 229, 230] M0 M → (rz [1, 8, 11, 13] M0 M) → (4 * i < tn + 4) → (ca = rwC tn (M0 237) i) → (M 228 11 = (i : Int) - rwC tn (M0 237) i) → (rr_ M = rwR tn (M0 237) (rr_ M0) i) → (r9 M0 M) → (M 229 = M0 229 ∧ M 228 8 = M0 228 8 ∧ M 228 13 = 0) → px_R xs L d 213 (35, [.ref 228, .int (iI (((tn : Nat) : Int))), .int (iI (ca)), .int (iI (((4 * i : Nat) : Int))), v4], [], (sh, M)) Q := by
  intro mz
  induction mz using Nat.strongRecOn with
  | _ mz ih =>
    intro ca i v4 M hm hq hrq hi hca hld hrow hr9 h29
    refine rr_iload_n pf_213_35 rfl ?_
    refine rr_iload_n pf_213_36 rfl ?_
    refine rr_icmp_ge 183 pf_213_37 (by decide) (by unfold rg; omega) (by unfold rg; omega) (fun c1 => ?_) (fun c1 => ?_)
    · exact kx ca i _ M hq (hrq) (by omega) (hca) (hld) (hrow) (hr9) (h29)
    · refine rr_iload_n pf_213_40 rfl ?_
      refine rr_iconst pf_213_41 ?_
      refine rr_iadd pf_213_42 ?_
      refine rr_iload_n pf_213_43 rfl ?_
      refine rr_icmp_ge 167 pf_213_44 (by decide) (by unfold rg; omega) (by unfold rg; omega) (fun c2 => ?_) (fun c2 => ?_)
      · have hNO : ¬ rwOK tn (M0 237) (4 * i) := fun z => by have z1 := z.1; have z2 := z.2.1; have z3 := z.2.2.1; have z4 := z.2.2.2.1; have z5 := z.2.2.2.2; omega
        refine rr_aload_n pf_213_167 rfl ?_
        refine rr_dup pf_213_168 rfl ?_
        refine vr_getI hq pf_213_169 po_213 pg_9_267 rfl (ws_228 hW) (by decide) (fun x3 hx3 rx3 => ?_)
        rw [hld] at hx3
        have hcb := rwC_b tn (M0 237) i
        refine rr_iconst pf_213_172 ?_
        refine rr_iadd pf_213_173 ?_
        refine vr_putI hW hq pf_213_174 po_213 pg_9_267 (Or.inl rfl) rfl (ws_228 hW) (by decide) (by unfold rg; omega) (by decide) (fun M4 eM4 q5 => ?_)
        have rq6 := rz_up hrq eM4 (by decide)
        refine rr_iinc pf_213_177 rfl (fun y => [.ref 228, .int (iI (((tn : Nat) : Int))), .int (iI (ca)), .int (iI (y)), v4]) (fun _ => rfl) (fun y7 hy7 => ?_)
        refine rr_goto 35 pf_213_180 (by decide) ?_
        obtain rfl : y7 = ((4 * (i + 1) : Nat) : Int) := by omega
        exact ih _ (by omega) ca (i + 1) _ M4 rfl q5 (rq6) (by omega) (by rw [rwC, if_neg (by rw [rwd_f hNO]; decide)]; omega) (by rw [eM4, up_s, rwC, if_neg (by rw [rwd_f hNO]; decide)]; omega) (by rw [rwR, if_neg (by rw [rwd_f hNO]; decide), rr_eq (M := M) (by rw [eM4, ask_ne (by decide)])]; exact hrow) (r9_tr hr9 (r9_eq (by rw [eM4, ask_ne (by decide)]))) (by exact ⟨by rw [eM4, ask_ne (by decide)]; exact h29.1, by rw [eM4, up_ne (by decide)]; exact h29.2.1, by rw [eM4, up_ne (by decide)]; exact h29.2.2⟩)
      · refine rr_aload_n pf_213_47 rfl ?_
        refine rr_getR pf_213_48 po_213 pg_9_35 rfl (ws_228 hW) (by decide) (wr_228_12 hq.1) ?_
        refine rr_iload_n pf_213_51 rfl ?_
        refine vr_iald (j := 4 * i) hq pf_213_52 (ws_237 hW) (by omega) (by omega) (by decide) (fun x8 hx8 rx8 => ?_)
        rw [hq.2.2 237 (by decide)] at hx8
        refine rr_cS1 pf_213_53 po_213 pc_9_228 (by decide) rfl (ct_R_isPane (by omega) rx8) ?_
        refine rr_ifb_eq 167 pf_213_56 (by decide) (fun c9 => ?_) (fun c9 => ?_)
        · have hNO : ¬ rwOK tn (M0 237) (4 * i) := fun z => by have z1 := z.1; have z2 := z.2.1; have z3 := z.2.2.1; have z4 := z.2.2.2.1; have z5 := z.2.2.2.2; omega
          refine rr_aload_n pf_213_167 rfl ?_
          refine rr_dup pf_213_168 rfl ?_
          refine vr_getI hq pf_213_169 po_213 pg_9_267 rfl (ws_228 hW) (by decide) (fun x10 hx10 rx10 => ?_)
          rw [hld] at hx10
          have hcb := rwC_b tn (M0 237) i
          refine rr_iconst pf_213_172 ?_
          refine rr_iadd pf_213_173 ?_
          refine vr_putI hW hq pf_213_174 po_213 pg_9_267 (Or.inl rfl) rfl (ws_228 hW) (by decide) (by unfold rg; omega) (by decide) (fun M11 eM11 q12 => ?_)
          have rq13 := rz_up hrq eM11 (by decide)
          refine rr_iinc pf_213_177 rfl (fun y => [.ref 228, .int (iI (((tn : Nat) : Int))), .int (iI (ca)), .int (iI (y)), v4]) (fun _ => rfl) (fun y14 hy14 => ?_)
          refine rr_goto 35 pf_213_180 (by decide) ?_
          obtain rfl : y14 = ((4 * (i + 1) : Nat) : Int) := by omega
          exact ih _ (by omega) ca (i + 1) _ M11 rfl q12 (rq13) (by omega) (by rw [rwC, if_neg (by rw [rwd_f hNO]; decide)]; omega) (by rw [eM11, up_s, rwC, if_neg (by rw [rwd_f hNO]; decide)]; omega) (by rw [rwR, if_neg (by rw [rwd_f hNO]; decide), rr_eq (M := M) (by rw [eM11, ask_ne (by decide)])]; exact hrow) (r9_tr hr9 (r9_eq (by rw [eM11, ask_ne (by decide)]))) (by exact ⟨by rw [eM11, ask_ne (by decide)]; exact h29.1, by rw [eM11, up_ne (by decide)]; exact h29.2.1, by rw [eM11, up_ne (by decide)]; exact h29.2.2⟩)
        · refine rr_aload_n pf_213_59 rfl ?_
          refine rr_getR pf_213_60 po_213 pg_9_35 rfl (ws_228 hW) (by decide) (wr_228_12 hq.1) ?_
          refine rr_iload_n pf_213_63 rfl ?_
          refine rr_iconst pf_213_64 ?_
          refine rr_iadd pf_213_65 ?_
          refine vr_iald (j := 4 * i + 1) hq pf_213_66 (ws_237 hW) (by omega) (by omega) (by decide) (fun x15 hx15 rx15 => ?_)
          rw [hq.2.2 237 (by decide)] at hx15
          refine rr_i2l pf_213_67 rx15 ?_
          refine rr_lconst (w := 0) pf_213_68 rfl ?_
          refine rr_ldc2_w pf_213_69 po_213 pl_9_243 ?_
          refine rr_cS3 pf_213_72 po_213 pc_9_197 (by decide) rfl (ct_R_in (by omega) (rl_rg rx15) (by unfold rl; omega) (by unfold rl; omega)) ?_
          refine rr_ifb_eq 167 pf_213_75 (by decide) (fun c16 => ?_) (fun c16 => ?_)
          · have hNO : ¬ rwOK tn (M0 237) (4 * i) := fun z => by have z1 := z.1; have z2 := z.2.1; have z3 := z.2.2.1; have z4 := z.2.2.2.1; have z5 := z.2.2.2.2; omega
            refine rr_aload_n pf_213_167 rfl ?_
            refine rr_dup pf_213_168 rfl ?_
            refine vr_getI hq pf_213_169 po_213 pg_9_267 rfl (ws_228 hW) (by decide) (fun x17 hx17 rx17 => ?_)
            rw [hld] at hx17
            have hcb := rwC_b tn (M0 237) i
            refine rr_iconst pf_213_172 ?_
            refine rr_iadd pf_213_173 ?_
            refine vr_putI hW hq pf_213_174 po_213 pg_9_267 (Or.inl rfl) rfl (ws_228 hW) (by decide) (by unfold rg; omega) (by decide) (fun M18 eM18 q19 => ?_)
            have rq20 := rz_up hrq eM18 (by decide)
            refine rr_iinc pf_213_177 rfl (fun y => [.ref 228, .int (iI (((tn : Nat) : Int))), .int (iI (ca)), .int (iI (y)), v4]) (fun _ => rfl) (fun y21 hy21 => ?_)
            refine rr_goto 35 pf_213_180 (by decide) ?_
            obtain rfl : y21 = ((4 * (i + 1) : Nat) : Int) := by omega
            exact ih _ (by omega) ca (i + 1) _ M18 rfl q19 (rq20) (by omega) (by rw [rwC, if_neg (by rw [rwd_f hNO]; decide)]; omega) (by rw [eM18, up_s, rwC, if_neg (by rw [rwd_f hNO]; decide)]; omega) (by rw [rwR, if_neg (by rw [rwd_f hNO]; decide), rr_eq (M := M) (by rw [eM18, ask_ne (by decide)])]; exact hrow) (r9_tr hr9 (r9_eq (by rw [eM18, ask_ne (by decide)]))) (by exact ⟨by rw [eM18, ask_ne (by decide)]; exact h29.1, by rw [eM18, up_ne (by decide)]; exact h29.2.1, by rw [eM18, up_ne (by decide)]; exact h29.2.2⟩)
          · refine rr_aload_n pf_213_78 rfl ?_
            refine rr_getR pf_213_79 po_213 pg_9_35 rfl (ws_228 hW) (by decide) (wr_228_12 hq.1) ?_
            refine rr_iload_n pf_213_82 rfl ?_
            refine rr_iconst pf_213_83 ?_
            refine rr_iadd pf_213_84 ?_
            refine vr_iald (j := 4 * i + 2) hq pf_213_85 (ws_237 hW) (by omega) (by omega) (by decide) (fun x22 hx22 rx22 => ?_)
            rw [hq.2.2 237 (by decide)] at hx22
            refine rr_i2l pf_213_86 rx22 ?_
            refine rr_lconst (w := 0) pf_213_87 rfl ?_
            refine rr_ldc2_w pf_213_88 po_213 pl_9_243 ?_
            refine rr_cS3 pf_213_91 po_213 pc_9_197 (by decide) rfl (ct_R_in (by omega) (rl_rg rx22) (by unfold rl; omega) (by unfold rl; omega)) ?_
            refine rr_ifb_eq 167 pf_213_94 (by decide) (fun c23 => ?_) (fun c23 => ?_)
            · have hNO : ¬ rwOK tn (M0 237) (4 * i) := fun z => by have z1 := z.1; have z2 := z.2.1; have z3 := z.2.2.1; have z4 := z.2.2.2.1; have z5 := z.2.2.2.2; omega
              refine rr_aload_n pf_213_167 rfl ?_
              refine rr_dup pf_213_168 rfl ?_
              refine vr_getI hq pf_213_169 po_213 pg_9_267 rfl (ws_228 hW) (by decide) (fun x24 hx24 rx24 => ?_)
              rw [hld] at hx24
              have hcb := rwC_b tn (M0 237) i
              refine rr_iconst pf_213_172 ?_
              refine rr_iadd pf_213_173 ?_
              refine vr_putI hW hq pf_213_174 po_213 pg_9_267 (Or.inl rfl) rfl (ws_228 hW) (by decide) (by unfold rg; omega) (by decide) (fun M25 eM25 q26 => ?_)
              have rq27 := rz_up hrq eM25 (by decide)
              refine rr_iinc pf_213_177 rfl (fun y => [.ref 228, .int (iI (((tn : Nat) : Int))), .int (iI (ca)), .int (iI (y)), v4]) (fun _ => rfl) (fun y28 hy28 => ?_)
              refine rr_goto 35 pf_213_180 (by decide) ?_
              obtain rfl : y28 = ((4 * (i + 1) : Nat) : Int) := by omega
              exact ih _ (by omega) ca (i + 1) _ M25 rfl q26 (rq27) (by omega) (by rw [rwC, if_neg (by rw [rwd_f hNO]; decide)]; omega) (by rw [eM25, up_s, rwC, if_neg (by rw [rwd_f hNO]; decide)]; omega) (by rw [rwR, if_neg (by rw [rwd_f hNO]; decide), rr_eq (M := M) (by rw [eM25, ask_ne (by decide)])]; exact hrow) (r9_tr hr9 (r9_eq (by rw [eM25, ask_ne (by decide)]))) (by exact ⟨by rw [eM25, ask_ne (by decide)]; exact h29.1, by rw [eM25, up_ne (by decide)]; exact h29.2.1, by rw [eM25, up_ne (by decide)]; exact h29.2.2⟩)
            · refine rr_aload_n pf_213_97 rfl ?_
              refine rr_getR pf_213_98 po_213 pg_9_35 rfl (ws_228 hW) (by decide) (wr_228_12 hq.1) ?_
              refine rr_iload_n pf_213_101 rfl ?_
              refine rr_iconst pf_213_102 ?_
              refine rr_iadd pf_213_103 ?_
              refine vr_iald (j := 4 * i + 3) hq pf_213_104 (ws_237 hW) (by omega) (by omega) (by decide) (fun x29 hx29 rx29 => ?_)
              rw [hq.2.2 237 (by decide)] at hx29
              refine rr_i2l pf_213_105 rx29 ?_
              refine rr_lconst (w := 0) pf_213_106 rfl ?_
              refine rr_ldc2_w pf_213_107 po_213 pl_9_243 ?_
              refine rr_cS3 pf_213_110 po_213 pc_9_197 (by decide) rfl (ct_R_in (by omega) (rl_rg rx29) (by unfold rl; omega) (by unfold rl; omega)) ?_
              refine rr_ifb_eq 167 pf_213_113 (by decide) (fun c30 => ?_) (fun c30 => ?_)
              · have hNO : ¬ rwOK tn (M0 237) (4 * i) := fun z => by have z1 := z.1; have z2 := z.2.1; have z3 := z.2.2.1; have z4 := z.2.2.2.1; have z5 := z.2.2.2.2; omega
                refine rr_aload_n pf_213_167 rfl ?_
                refine rr_dup pf_213_168 rfl ?_
                refine vr_getI hq pf_213_169 po_213 pg_9_267 rfl (ws_228 hW) (by decide) (fun x31 hx31 rx31 => ?_)
                rw [hld] at hx31
                have hcb := rwC_b tn (M0 237) i
                refine rr_iconst pf_213_172 ?_
                refine rr_iadd pf_213_173 ?_
                refine vr_putI hW hq pf_213_174 po_213 pg_9_267 (Or.inl rfl) rfl (ws_228 hW) (by decide) (by unfold rg; omega) (by decide) (fun M32 eM32 q33 => ?_)
                have rq34 := rz_up hrq eM32 (by decide)
                refine rr_iinc pf_213_177 rfl (fun y => [.ref 228, .int (iI (((tn : Nat) : Int))), .int (iI (ca)), .int (iI (y)), v4]) (fun _ => rfl) (fun y35 hy35 => ?_)
                refine rr_goto 35 pf_213_180 (by decide) ?_
                obtain rfl : y35 = ((4 * (i + 1) : Nat) : Int) := by omega
                exact ih _ (by omega) ca (i + 1) _ M32 rfl q33 (rq34) (by omega) (by rw [rwC, if_neg (by rw [rwd_f hNO]; decide)]; omega) (by rw [eM32, up_s, rwC, if_neg (by rw [rwd_f hNO]; decide)]; omega) (by rw [rwR, if_neg (by rw [rwd_f hNO]; decide), rr_eq (M := M) (by rw [eM32, ask_ne (by decide)])]; exact hrow) (r9_tr hr9 (r9_eq (by rw [eM32, ask_ne (by decide)]))) (by exact ⟨by rw [eM32, ask_ne (by decide)]; exact h29.1, by rw [eM32, up_ne (by decide)]; exact h29.2.1, by rw [eM32, up_ne (by decide)]; exact h29.2.2⟩)
              · have hOK : rwOK tn (M0 237) (4 * i) := ⟨by omega, by omega, by omega, by omega, by omega⟩
                refine rr_iconst pf_213_116 ?_
                refine rr_istore pf_213_117 (fun y => [.ref 228, .int (iI (((tn : Nat) : Int))), .int (iI (ca)), .int (iI (((4 * i : Nat) : Int))), .int (iI (y))]) (Nat.le_of_ble_eq_true rfl) (fun _ => rfl) (fun y36 hy36 => ?_)
                refine rr_iload pf_213_119 rfl ?_
                refine rr_iconst pf_213_121 ?_
                refine rr_icmp_ge 161 pf_213_122 (by decide) (by unfold rg; omega) (by unfold rg; omega) (fun c37 => ?_) (fun c37 => ?_)
                · exfalso; omega
                · refine rr_aload_n pf_213_125 rfl ?_
                  refine rr_getR pf_213_126 po_213 pg_9_13 rfl (ws_228 hW) (by decide) (wr_228_3 hq.1) ?_
                  refine rr_bipush pf_213_129 (by decide) ?_
                  refine rr_iconst pf_213_131 ?_
                  refine rr_aload_n pf_213_132 rfl ?_
                  refine rr_getR pf_213_133 po_213 pg_9_35 rfl (ws_228 hW) (by decide) (wr_228_12 hq.1) ?_
                  refine rr_iload_n pf_213_136 rfl ?_
                  refine vr_iald (j := 4 * i) hq pf_213_137 (ws_237 hW) (by omega) (by omega) (by decide) (fun x38 hx38 rx38 => ?_)
                  rw [hq.2.2 237 (by decide)] at hx38
                  refine rr_imul pf_213_138 ?_
                  refine rr_iadd pf_213_139 ?_
                  refine rr_iload pf_213_140 rfl ?_
                  refine rr_iadd pf_213_142 ?_
                  refine rr_aload_n pf_213_143 rfl ?_
                  refine rr_getR pf_213_144 po_213 pg_9_35 rfl (ws_228 hW) (by decide) (wr_228_12 hq.1) ?_
                  refine rr_iload_n pf_213_147 rfl ?_
                  refine rr_iconst pf_213_148 ?_
                  refine rr_iadd pf_213_149 ?_
                  refine rr_iload pf_213_150 rfl ?_
                  refine rr_iadd pf_213_152 ?_
                  refine vr_iald (j := 4 * i + 1) hq pf_213_153 (ws_237 hW) (by omega) (by omega) (by decide) (fun x39 hx39 rx39 => ?_)
                  rw [hq.2.2 237 (by decide)] at hx39
                  refine vr_iast (j := 9 + 3 * (M0 237 (4 * i)).toNat) hW hq pf_213_154 (ws_230 hW) (by omega) (by omega) (by decide) rx39 (by decide) (fun M40 eM40 q41 => ?_)
                  have rq42 := rz_ne hrq eM40 (by decide)
                  refine rr_iinc pf_213_155 rfl (fun y => [.ref 228, .int (iI (((tn : Nat) : Int))), .int (iI (ca)), .int (iI (((4 * i : Nat) : Int))), .int (iI (y))]) (fun _ => rfl) (fun y43 hy43 => ?_)
                  refine rr_goto 119 pf_213_158 (by decide) ?_
                  refine rr_iload pf_213_119 rfl ?_
                  refine rr_iconst pf_213_121 ?_
                  refine rr_icmp_ge 161 pf_213_122 (by decide) (by unfold rg; omega) (by unfold rg; omega) (fun c44 => ?_) (fun c44 => ?_)
                  · exfalso; omega
                  · refine rr_aload_n pf_213_125 rfl ?_
                    refine rr_getR pf_213_126 po_213 pg_9_13 rfl (ws_228 hW) (by decide) (wr_228_3 q41.1) ?_
                    refine rr_bipush pf_213_129 (by decide) ?_
                    refine rr_iconst pf_213_131 ?_
                    refine rr_aload_n pf_213_132 rfl ?_
                    refine rr_getR pf_213_133 po_213 pg_9_35 rfl (ws_228 hW) (by decide) (wr_228_12 q41.1) ?_
                    refine rr_iload_n pf_213_136 rfl ?_
                    refine vr_iald (j := 4 * i) q41 pf_213_137 (ws_237 hW) (by omega) (by omega) (by decide) (fun x45 hx45 rx45 => ?_)
                    rw [q41.2.2 237 (by decide)] at hx45
                    refine rr_imul pf_213_138 ?_
                    refine rr_iadd pf_213_139 ?_
                    refine rr_iload pf_213_140 rfl ?_
                    refine rr_iadd pf_213_142 ?_
                    refine rr_aload_n pf_213_143 rfl ?_
                    refine rr_getR pf_213_144 po_213 pg_9_35 rfl (ws_228 hW) (by decide) (wr_228_12 q41.1) ?_
                    refine rr_iload_n pf_213_147 rfl ?_
                    refine rr_iconst pf_213_148 ?_
                    refine rr_iadd pf_213_149 ?_
                    refine rr_iload pf_213_150 rfl ?_
                    refine rr_iadd pf_213_152 ?_
                    refine vr_iald (j := 4 * i + 2) q41 pf_213_153 (ws_237 hW) (by omega) (by omega) (by decide) (fun x46 hx46 rx46 => ?_)
                    rw [q41.2.2 237 (by decide)] at hx46
                    refine vr_iast (j := 9 + 3 * (M0 237 (4 * i)).toNat + 1) hW q41 pf_213_154 (ws_230 hW) (by omega) (by omega) (by decide) rx46 (by decide) (fun M47 eM47 q48 => ?_)
                    have rq49 := rz_ne rq42 eM47 (by decide)
                    refine rr_iinc pf_213_155 rfl (fun y => [.ref 228, .int (iI (((tn : Nat) : Int))), .int (iI (ca)), .int (iI (((4 * i : Nat) : Int))), .int (iI (y))]) (fun _ => rfl) (fun y50 hy50 => ?_)
                    refine rr_goto 119 pf_213_158 (by decide) ?_
                    refine rr_iload pf_213_119 rfl ?_
                    refine rr_iconst pf_213_121 ?_
                    refine rr_icmp_ge 161 pf_213_122 (by decide) (by unfold rg; omega) (by unfold rg; omega) (fun c51 => ?_) (fun c51 => ?_)
                    · exfalso; omega
                    · refine rr_aload_n pf_213_125 rfl ?_
                      refine rr_getR pf_213_126 po_213 pg_9_13 rfl (ws_228 hW) (by decide) (wr_228_3 q48.1) ?_
                      refine rr_bipush pf_213_129 (by decide) ?_
                      refine rr_iconst pf_213_131 ?_
                      refine rr_aload_n pf_213_132 rfl ?_
                      refine rr_getR pf_213_133 po_213 pg_9_35 rfl (ws_228 hW) (by decide) (wr_228_12 q48.1) ?_
                      refine rr_iload_n pf_213_136 rfl ?_
                      refine vr_iald (j := 4 * i) q48 pf_213_137 (ws_237 hW) (by omega) (by omega) (by decide) (fun x52 hx52 rx52 => ?_)
                      rw [q48.2.2 237 (by decide)] at hx52
                      refine rr_imul pf_213_138 ?_
                      refine rr_iadd pf_213_139 ?_
                      refine rr_iload pf_213_140 rfl ?_
                      refine rr_iadd pf_213_142 ?_
                      refine rr_aload_n pf_213_143 rfl ?_
                      refine rr_getR pf_213_144 po_213 pg_9_35 rfl (ws_228 hW) (by decide) (wr_228_12 q48.1) ?_
                      refine rr_iload_n pf_213_147 rfl ?_
                      refine rr_iconst pf_213_148 ?_
                      refine rr_iadd pf_213_149 ?_
                      refine rr_iload pf_213_150 rfl ?_
                      refine rr_iadd pf_213_152 ?_
                      refine vr_iald (j := 4 * i + 3) q48 pf_213_153 (ws_237 hW) (by omega) (by omega) (by decide) (fun x53 hx53 rx53 => ?_)
                      rw [q48.2.2 237 (by decide)] at hx53
                      refine vr_iast (j := 9 + 3 * (M0 237 (4 * i)).toNat + 2) hW q48 pf_213_154 (ws_230 hW) (by omega) (by omega) (by decide) rx53 (by decide) (fun M54 eM54 q55 => ?_)
                      have rq56 := rz_ne rq49 eM54 (by decide)
                      refine rr_iinc pf_213_155 rfl (fun y => [.ref 228, .int (iI (((tn : Nat) : Int))), .int (iI (ca)), .int (iI (((4 * i : Nat) : Int))), .int (iI (y))]) (fun _ => rfl) (fun y57 hy57 => ?_)
                      refine rr_goto 119 pf_213_158 (by decide) ?_
                      refine rr_iload pf_213_119 rfl ?_
                      refine rr_iconst pf_213_121 ?_
                      refine rr_icmp_ge 161 pf_213_122 (by decide) (by unfold rg; omega) (by unfold rg; omega) (fun c58 => ?_) (fun c58 => ?_)
                      · refine rr_iinc pf_213_161 rfl (fun y => [.ref 228, .int (iI (((tn : Nat) : Int))), .int (iI (y)), .int (iI (((4 * i : Nat) : Int))), .int (iI (y57))]) (fun _ => rfl) (fun y59 hy59 => ?_)
                        refine rr_goto 177 pf_213_164 (by decide) ?_
                        refine rr_iinc pf_213_177 rfl (fun y => [.ref 228, .int (iI (((tn : Nat) : Int))), .int (iI (y59)), .int (iI (y)), .int (iI (y57))]) (fun _ => rfl) (fun y60 hy60 => ?_)
                        refine rr_goto 35 pf_213_180 (by decide) ?_
                        obtain rfl : y60 = ((4 * (i + 1) : Nat) : Int) := by omega
                        exact ih _ (by omega) y59 (i + 1) _ M54 rfl q55 (rq56) (by omega) (by rw [rwC, if_pos (rwd_t hOK)]; omega) (by rw [eM54, ask_ne (by decide), eM47, ask_ne (by decide), eM40, ask_ne (by decide), hld, rwC, if_pos (rwd_t hOK)]; omega) (by
                                                      rw [rwR, if_pos (rwd_t hOK)]
                                                      unfold rup3
                                                      rw [rr_w (rr_w (rr_w hrow eM40 (by omega)) eM47 (by omega)) eM54 (by omega)]
                                                      subst_vars; rfl) (r9_up (r9_up (r9_up hr9 eM40 (by omega)) eM47 (by omega)) eM54 (by omega)) (by exact ⟨by rw [eM54, ask_ne (by decide), eM47, ask_ne (by decide), eM40, ask_ne (by decide)]; exact h29.1, by rw [eM54, ask_ne (by decide), eM47, ask_ne (by decide), eM40, ask_ne (by decide)]; exact h29.2.1, by rw [eM54, ask_ne (by decide), eM47, ask_ne (by decide), eM40, ask_ne (by decide)]; exact h29.2.2⟩)
                      · exfalso; omega
theorem ct_R_row1 {xs : Nat → Int} {L d : Nat} {sh : List (Nat × Nat)} {M0 : Nat → Nat → Int} (hd : 3 ≤ d) (hW : px_W0 <+: sh) (hF : px_Fx M0) (hG : px_RG sh M0)  (hρ : sp_ok (rr_ M0)) (hrf : ∀ j, j < 7 → 0 ≤ M0 229 j ∧ M0 229 j ≤ 1000000000) {tn : Nat} (h13 : M0 228 13 = ((tn : Nat) : Int)) (htn : tn ≤ 400) (h0 : 0 < tn) : ∃ v M, (px_qk sh [228, 229, 230] M0 M ∧ (v = rwC tn (M0 237) (rwN tn)) ∧ (rr_ M = rwR tn (M0 237) (rr_ M0) (rwN tn)) ∧ (r9 M0 M) ∧ (M 228 11 = (rwN tn : Int) - rwC tn (M0 237) (rwN tn)) ∧ (M 228 13 = 0) ∧ (M 228 1 = 0) ∧ (M 229 = M0 229) ∧ (M 228 8 = 0) ∧ (rz [1, 8, 11, 13] M0 M)) ∧ px_Cl xs L d 213 [.ref 228] (sh, M0) (some (.int (iI v))) (sh, M) := by
  obtain ⟨d, rfl⟩ : ∃ e, d = e + 1 := ⟨d - 1, by omega⟩
  have q0 : px_qk sh [228, 229, 230] M0 M0 := ⟨hF, hG, eo_rf⟩
  refine vc_i (Nat.le_of_ble_eq_true rfl) ?_
  show px_R xs L d 213 (0, [.ref 228, px_jk, px_jk, px_jk, px_jk], [], (sh, M0)) (fun r h' => ∃ v M', r = some (.int (iI v)) ∧ h' = (sh, M') ∧ px_qk sh [228, 229, 230] M0 M' ∧ v = rwC tn (M0 237) (rwN tn) ∧ rr_ M' = rwR tn (M0 237) (rr_ M0) (rwN tn) ∧ r9 M0 M' ∧ M' 228 11 = (rwN tn : Int) - rwC tn (M0 237) (rwN tn) ∧ M' 228 13 = 0 ∧ M' 228 1 = 0 ∧ M' 229 = M0 229 ∧ M' 228 8 = 0 ∧ rz [1, 8, 11, 13] M0 M')
  refine rr_aload_n pf_213_0 rfl ?_
  refine rr_iconst pf_213_1 ?_
  refine vr_putI hW q0 pf_213_2 po_213 pg_9_177 (Or.inl rfl) rfl (ws_228 hW) (by decide) (by unfold rg; omega) (by decide) (fun M1 eM1 q2 => ?_)
  have rq3 := rz_up (rz_rf [1, 8, 11, 13] M0) eM1 (by decide)
  have row4 := (rr_eq (M := M0) (M2 := M1) (by rw [eM1, ask_ne (by decide)])).trans (rfl : rr_ M0 = rr_ M0)
  have ninerow4 := r9_tr (r9_rf M0) (r9_eq (M := M0) (M2 := M1) (by rw [eM1, ask_ne (by decide)]))
  have f5 : M1 228 8 = M0 228 8 := (show M1 228 8 = M0 228 8 by rw [eM1, up_ne (by decide)]).trans (rfl : M0 228 8 = M0 228 8)
  have f6 : M1 228 13 = M0 228 13 := (show M1 228 13 = M0 228 13 by rw [eM1, up_ne (by decide)]).trans (rfl : M0 228 13 = M0 228 13)
  have e7 : M1 229 = M0 229 := (show M1 229 = M0 229 by rw [eM1, ask_ne (by decide)]).trans (rfl : M0 229 = M0 229)
  refine rr_aload_n pf_213_5 rfl ?_
  refine vr_getI q2 pf_213_6 po_213 pg_9_264 rfl (ws_228 hW) (by decide) (fun x8 hx8 rx8 => ?_)
  rw [f6, h13] at hx8
  refine rr_istore_n pf_213_9 (fun y => [.ref 228, .int (iI (y)), px_jk, px_jk, px_jk]) (Nat.le_of_ble_eq_true rfl) (fun _ => rfl) (fun y9 hy9 => ?_)
  have ry9 : rg y9 := hy9 ▸ rx8
  refine rr_aload_n pf_213_10 rfl ?_
  refine rr_iconst pf_213_11 ?_
  refine vr_putI hW q2 pf_213_12 po_213 pg_9_264 (Or.inl rfl) rfl (ws_228 hW) (by decide) (by unfold rg; omega) (by decide) (fun M10 eM10 q11 => ?_)
  have rq12 := rz_up rq3 eM10 (by decide)
  have row13 := (rr_eq (M := M1) (M2 := M10) (by rw [eM10, ask_ne (by decide)])).trans row4
  have ninerow13 := r9_tr ninerow4 (r9_eq (M := M1) (M2 := M10) (by rw [eM10, ask_ne (by decide)]))
  have f14 : M10 228 8 = M0 228 8 := (show M10 228 8 = M1 228 8 by rw [eM10, up_ne (by decide)]).trans f5
  have e16 : M10 229 = M0 229 := (show M10 229 = M1 229 by rw [eM10, ask_ne (by decide)]).trans e7
  refine rr_iload_n pf_213_15 rfl ?_
  refine rr_if_ne 26 pf_213_16 (by decide) ry9 (fun c17 => ?_) (fun c17 => ?_)
  · refine rr_aload_n pf_213_26 rfl ?_
    refine rr_iconst pf_213_27 ?_
    refine vr_putI hW q11 pf_213_28 po_213 pg_9_267 (Or.inl rfl) rfl (ws_228 hW) (by decide) (by unfold rg; omega) (by decide) (fun M18 eM18 q19 => ?_)
    have rq20 := rz_up rq12 eM18 (by decide)
    have row21 := (rr_eq (M := M10) (M2 := M18) (by rw [eM18, ask_ne (by decide)])).trans row13
    have ninerow21 := r9_tr ninerow13 (r9_eq (M := M10) (M2 := M18) (by rw [eM18, ask_ne (by decide)]))
    have f22 : M18 228 8 = M0 228 8 := (show M18 228 8 = M10 228 8 by rw [eM18, up_ne (by decide)]).trans f14
    have e23 : M18 229 = M0 229 := (show M18 229 = M10 229 by rw [eM18, ask_ne (by decide)]).trans e16
    refine rr_iconst pf_213_31 ?_
    refine rr_istore_n pf_213_32 (fun y => [.ref 228, .int (iI (y9)), .int (iI (y)), px_jk, px_jk]) (Nat.le_of_ble_eq_true rfl) (fun _ => rfl) (fun y24 hy24 => ?_)
    refine rr_iconst pf_213_33 ?_
    refine rr_istore_n pf_213_34 (fun y => [.ref 228, .int (iI (y9)), .int (iI (y24)), .int (iI (y)), px_jk]) (Nat.le_of_ble_eq_true rfl) (fun _ => rfl) (fun y25 hy25 => ?_)
    obtain rfl : y9 = ((tn : Nat) : Int) := by omega
    obtain rfl : y25 = ((4 * 0 : Nat) : Int) := by omega
    refine lp_R_row1_35 (xs := xs) (L := L) (d := d) (by omega) hW hρ htn (fun ca_26 i_27 v30 M28 q29 xrq_M28 xi_M28 xca_M28 xld_M28 xrow_M28 x9_M28 x29_M28 => ?_) _ y24 0 _ M18 rfl q19 (rq20) (by omega) (hy24) (by rw [eM18, up_s]; rfl) (row21) (ninerow21) (⟨e23, f22, by rw [eM18, up_ne (by decide), eM10, up_s]⟩)
    have hcb := rwC_b tn (M0 237) i_27
    have hxi := xi_M28
    have hxc := xca_M28
    refine rr_aload_n pf_213_183 rfl ?_
    refine rr_iload_n pf_213_184 rfl ?_
    obtain ⟨M31, ⟨kq32, taM31, tbM31⟩, hcM31⟩ := ct_R_settled (xs := xs) (L := L) (d := d) (v := ca_26) (by omega) hW q29.1 q29.2.1 (by unfold rg; omega) (by omega) (by rw [x29_M28.1]; exact hrf)
    have q32 := qk_trm q29 kq32 (by decide)
    have rq33 := rz_sett xrq_M28 taM31 (by decide) (by decide)
    have stM31 : M31 228 1 = if (ca_26 : Int) < 0 then ca_26 else 0 := by rw [taM31, up_s]
    have rfM31 : M31 229 = bmp (M0 229) ca_26 := by rw [tbM31, x29_M28.1]; rfl
    have n8M31 : M31 228 8 = if (ca_26 : Int) < 0 then M0 228 8 else 0 := by rw [taM31, up_ne (by decide), up_s, x29_M28.2.1]
    refine rr_cV1 pf_213_185 po_213 pc_9_201 (ws_228 hW) po_181 (by decide) rfl hcM31 ?_
    refine rr_iret pf_213_188 pt_213 ⟨_, M31, rfl, rfl, q32, (by unfold rwN; rw [show (tn + 3) / 4 = i_27 by omega]; exact xca_M28), (by unfold rwN; rw [show (tn + 3) / 4 = i_27 by omega, rr_eq (kq32.2.2 230 (by decide))]; exact xrow_M28), (r9_tr x9_M28 (r9_eq (kq32.2.2 230 (by decide)))), (by rw [taM31, up_ne (by decide), up_ne (by decide), xld_M28]; unfold rwN; rw [show (tn + 3) / 4 = i_27 by omega]), (by rw [taM31, up_ne (by decide), up_ne (by decide)]; exact x29_M28.2.2), (by rw [stM31, if_neg (by omega)]), (by rw [rfM31]; unfold bmp; rw [if_neg (by omega)]), (by rw [n8M31, if_neg (by omega)]), (rq33)⟩
  · exfalso; omega

/-! the reference's reader: a sum of an order -/
def rSm (E : rdE) (s : rdS) : rdS := if s.flt ≠ 0 then s else rExp E 0 s
theorem ct_R_readSum {xs : Nat → Int} {L d : Nat} {sh : List (Nat × Nat)} {M0 : Nat → Nat → Int} (hd : 8 ≤ d) (hW : px_W0 <+: sh) (hF : px_Fx M0) (hG : px_RG sh M0)  {E : rdE} {s : rdS} (hs : RT M0 E s.i s) {p : Nat} (hp : p + 1 < 96) : ∃ M, (px_qk sh [228, 239, 240, 241, 242, 262] M0 M ∧ (RT M E (rSm E s).i (rSm E s)) ∧ (M 262 = fup (fup (M0 262) p ((s.nc : Nat) : Int)) (p + 1) (((rSm E s).nc : Nat) : Int)) ∧ (fz [14, 15, 16, 17, 18, 19, 23, 26, 29, 30] M0 M)) ∧ px_Cl xs L d 294 [.ref 228, .int (iI (((p : Nat) : Int)))] (sh, M0) (none) (sh, M) := by
  obtain ⟨d, rfl⟩ : ∃ e, d = e + 1 := ⟨d - 1, by omega⟩
  have q0 : px_qk sh [228, 239, 240, 241, 242, 262] M0 M0 := ⟨hF, hG, eo_rf⟩
  refine vc_n (Nat.le_of_ble_eq_true rfl) ?_
  show px_R xs L d 294 (0, [.ref 228, .int (iI (((p : Nat) : Int)))], [], (sh, M0)) (fun r h' => r = none ∧ ∃ M', h' = (sh, M') ∧ px_qk sh [228, 239, 240, 241, 242, 262] M0 M' ∧ RT M' E (rSm E s).i (rSm E s) ∧ M' 262 = fup (fup (M0 262) p ((s.nc : Nat) : Int)) (p + 1) (((rSm E s).nc : Nat) : Int) ∧ fz [14, 15, 16, 17, 18, 19, 23, 26, 29, 30] M0 M')
  refine rr_aload_n pf_294_0 rfl ?_
  refine rr_getR pf_294_1 po_294 pg_9_165 rfl (ws_228 hW) (by decide) (wr_228_54 q0.1) ?_
  refine rr_iload_n pf_294_4 rfl ?_
  refine rr_aload_n pf_294_5 rfl ?_
  refine vr_getI q0 pf_294_6 po_294 pg_9_313 rfl (ws_228 hW) (by decide) (fun x1 hx1 rx1 => ?_)
  rw [hs.h23] at hx1
  refine vr_iast (j := p) hW q0 pf_294_9 (ws_262 hW) (by omega) (by omega) (by decide) rx1 (by decide) (fun M2 eM2 q3 => ?_)
  have rq4 := fz_ne (fz_rf [14, 15, 16, 17, 18, 19, 23, 26, 29, 30] M0) eM2 (by decide)
  have hsM2 := RT_u hs eM2 (by decide) (by decide)
  have cc5 : M2 262 = fup (M0 262) (p) x1 := by rw [up_fup eM2, (rfl : M0 262 = M0 262)]
  refine rr_aload_n pf_294_10 rfl ?_
  refine vr_getZ q3 pf_294_11 po_294 pg_9_276 rfl (ws_228 hW) (by decide) (fun x6 hx6 rx6 => ?_)
  rw [hsM2.h19] at hx6
  refine rr_if_ne 22 pf_294_14 (by decide) rx6 (fun c7 => ?_) (fun c7 => ?_)
  · have hl1 : s = rSm E s := by unfold rSm; rw [if_pos (by omega)]
    obtain ⟨z1, hz1⟩ : ∃ z, z = rSm E s := ⟨_, rfl⟩
    have hsl1 : RT M2 E z1.i z1 := by rw [hz1, ← hl1]; exact hsM2
    refine rr_aload_n pf_294_22 rfl ?_
    refine rr_getR pf_294_23 po_294 pg_9_165 rfl (ws_228 hW) (by decide) (wr_228_54 q3.1) ?_
    refine rr_iload_n pf_294_26 rfl ?_
    refine rr_iconst pf_294_27 ?_
    refine rr_iadd pf_294_28 ?_
    refine rr_aload_n pf_294_29 rfl ?_
    refine vr_getI q3 pf_294_30 po_294 pg_9_313 rfl (ws_228 hW) (by decide) (fun x8 hx8 rx8 => ?_)
    rw [hsl1.h23] at hx8
    refine vr_iast (j := (p + 1)) hW q3 pf_294_33 (ws_262 hW) (by omega) (by omega) (by decide) rx8 (by decide) (fun M9 eM9 q10 => ?_)
    have rq11 := fz_ne rq4 eM9 (by decide)
    have hsM9 := RT_u hsl1 eM9 (by decide) (by decide)
    have cc12 : M9 262 = fup (fup (M0 262) (p) x1) ((p + 1)) x8 := by rw [up_fup eM9, cc5]
    refine rr_vret pf_294_34 pt_294 ⟨rfl, M9, rfl, q10, (by rw [← hz1]; exact hsM9), (by rw [← hz1, cc12, hx1, hx8]), (rq11)⟩
  · refine rr_aload_n pf_294_17 rfl ?_
    refine rr_iconst pf_294_18 ?_
    obtain ⟨M13, ⟨kq14, pS_M13, pf_M13⟩, hcM13⟩ := ct_RT_readExpression (xs := xs) (L := L) (d := d) (u := 0) (E := E) (s := s) (by omega) hW q3.1 q3.2.1 hsM2 (by omega)
    have q14 := qk_trm q3 kq14 (by decide)
    have rq16 := fz_tr rq4 pf_M13 (by decide)
    refine rr_cV1 pf_294_19 po_294 pc_9_410 (ws_228 hW) po_228 (by decide) rfl hcM13 ?_
    have cc17 : M13 262 = fup (M0 262) (p) x1 := by rw [kq14.2.2 262 (by decide), cc5]
    
    have hl1 : (rExp E 0 s) = rSm E s := by unfold rSm; rw [if_neg (by omega)]
    obtain ⟨z1, hz1⟩ : ∃ z, z = rSm E s := ⟨_, rfl⟩
    have hsl1 : RT M13 E z1.i z1 := by rw [hz1, ← hl1]; exact pS_M13
    refine rr_aload_n pf_294_22 rfl ?_
    refine rr_getR pf_294_23 po_294 pg_9_165 rfl (ws_228 hW) (by decide) (wr_228_54 q14.1) ?_
    refine rr_iload_n pf_294_26 rfl ?_
    refine rr_iconst pf_294_27 ?_
    refine rr_iadd pf_294_28 ?_
    refine rr_aload_n pf_294_29 rfl ?_
    refine vr_getI q14 pf_294_30 po_294 pg_9_313 rfl (ws_228 hW) (by decide) (fun x18 hx18 rx18 => ?_)
    rw [hsl1.h23] at hx18
    refine vr_iast (j := (p + 1)) hW q14 pf_294_33 (ws_262 hW) (by omega) (by omega) (by decide) rx18 (by decide) (fun M19 eM19 q20 => ?_)
    have rq21 := fz_ne rq16 eM19 (by decide)
    have hsM19 := RT_u hsl1 eM19 (by decide) (by decide)
    have cc22 : M19 262 = fup (fup (M0 262) (p) x1) ((p + 1)) x18 := by rw [up_fup eM19, cc17]
    refine rr_vret pf_294_34 pt_294 ⟨rfl, M19, rfl, q20, (by rw [← hz1]; exact hsM19), (by rw [← hz1, cc22, hx1, hx18]), (rq21)⟩

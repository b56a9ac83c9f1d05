/-! the reference's reader: an order -/
section RTE
variable {xs : Nat → Int} {L d : Nat} {sh : List (Nat × Nat)} {M0 : Nat → Nat → Int}
theorem ct_RT_number (hd : 4 ≤ d) (hW : px_W0 <+: sh) (hF : px_Fx M0) (hG : px_RG sh M0) {E : rdE} {b : Nat} {s : rdS} (hs : RT M0 E b s) (hf : s.flt = 0) {lo hi_ : Int} (hlo : rl lo) (hhi : rl hi_) : ∃ v M, (px_qk sh [228] M0 M ∧ v = rW E s ∧ RT M E b (rNb E lo hi_ s) ∧ fz [14, 15, 16, 17, 18, 19] M0 M) ∧ px_Cl xs L d 238 [.ref 228, .long (lI (lo)), .long (lI (hi_))] (sh, M0) (some (.int (iI v))) (sh, M) := by
  have hwl : rl (tkW E.tn (M0 237) s.i) := by
    have z := rg_atL hG (ws_228 hW) (j := 17) rfl
    rw [hs.hlx.2.2.2] at z
    rw [hs.h237]; exact z
  obtain ⟨v, M, ⟨k, pv, pn, pf⟩, hc⟩ := ct_R_number (xs := xs) (L := L) hd hW hF hG (tn := E.tn) hs.h13 hs.htn (by rw [hs.h237]; exact hs.htb) (i := s.i) hs.hi (by rw [hs.h237]; exact hs.hlx) (by rw [hs.h19, hf]) hlo hhi hwl
  rw [hs.h237] at pv pn
  refine ⟨v, M, ⟨k, pv, ?_, pf⟩, hc⟩
  have a := tkS_b (tb := E.tb) hs.hi
  have a2 := tkE_b (tb := E.tb) hs.hi
  rcases pn with ⟨c, p19, p18, pl⟩ | ⟨c, p19, p18, pl⟩
  · rw [show rNb E lo hi_ s = nxS E s from if_pos c]
    exact RT_tok hs pf k.2.2 pl (p18.trans hs.h18) (p19.trans hf.symm) ⟨by omega, by omega⟩
  · rw [show rNb E lo hi_ s = fl E s from if_neg c]
    exact RT_tok hs pf k.2.2 pl p18 p19 ⟨Nat.le_refl _, hs.hi⟩
end RTE
/-- an order's ways: the first word's sums, the word between, the number of times, the test -/
def od1 (E : rdE) (k : Int) (s : rdS) : rdS := if k = 4 then s else rSm E s
def od2 (E : rdE) (k : Int) (s : rdS) : rdS := if s.flt ≠ 0 then s else mst E (bI (rK E s = 1 ∧ rW E s = if k = 0 then 486 else 52)) s
def od3 (E : rdE) (k : Int) (s : rdS) : rdS := if 2 ≤ k then s else rSm E (od2 E k s)
def od4 (E : rdE) (s : rdS) : rdS := if s.flt = 0 ∧ rK E s = 1 ∧ rW E s = 21279923 then rNb E 1 20 (nxS E s) else s
def od4v (E : rdE) (s : rdS) : Int := if s.flt = 0 ∧ rK E s = 1 ∧ rW E s = 21279923 then wrp (rW E (nxS E s)) else 1
def oC1 (E : rdE) (k : Int) (nl : Nat) (z : rdS) (c : Nat → Int) : Nat → Int := if k = 4 then c else fup (fup c (8 * nl + 1) ((z.nc : Nat) : Int)) (8 * nl + 1 + 1) (((rSm E z).nc : Nat) : Int)
def oC3 (E : rdE) (k : Int) (nl : Nat) (z : rdS) (c : Nat → Int) : Nat → Int := if 2 ≤ k then c else fup (fup c (8 * nl + 3) (((od2 E k z).nc : Nat) : Int)) (8 * nl + 3 + 1) (((rSm E (od2 E k z)).nc : Nat) : Int)
def oC4 (E : rdE) (nl : Nat) (z : rdS) (c : Nat → Int) : Nat → Int := if z.flt = 0 ∧ rK E z = 1 ∧ rW E z = 21279923 then fup (fup c (8 * nl + 7) 1) (8 * nl + 7) (wrp (rW E (nxS E z))) else fup c (8 * nl + 7) 1
def oC6 (E : rdE) (nl : Nat) (z : rdS) (c : Nat → Int) : Nat → Int := fup (fup c (8 * nl + 5) ((z.nc : Nat) : Int)) (8 * nl + 6) (((lw2 E z).nc : Nat) : Int)
def oS4 (E : rdE) (k : Int) (s : rdS) : rdS := od4 E (od3 E k (od1 E k (nxS E s)))
def oCs (E : rdE) (k : Int) (nl : Nat) (s : rdS) (c : Nat → Int) : Nat → Int := oC6 E nl (oS4 E k s) (oC4 E nl (od3 E k (od1 E k (nxS E s))) (oC3 E k nl (od1 E k (nxS E s)) (oC1 E k nl (nxS E s) (fup (zr c (8 * nl) 8) (8 * nl) k))))
theorem RT_mb {M : Nat → Nat → Int} {E : rdE} {s : rdS} {u : Int} (hi : s.i ≤ E.tn) (h0 : s.nc ≤ s.i) (h : RT M E s.i (mst E u s)) : RT M E (mst E u s).i (mst E u s) := by
  unfold mst at h ⊢
  by_cases c : u = 1
  · rw [if_pos c] at h ⊢; exact RT_nb hi h0 h
  · rw [if_neg c] at h ⊢; exact h
theorem lp_R_readOrder_165 {xs : Nat → Int} {L d : Nat} {sh : List (Nat × Nat)} (hd : 8 ≤ d) (hW : px_W0 <+: sh) {M0 : Nat → Nat → Int}  {E : rdE} {nl : Nat} (hnl2 : nl < 12) {k_ p_ : Int} (hp_ : p_ = 8 * ((nl : Nat) : Int)) (hib : -1 ≤ k_ ∧ k_ < 5) {R : rdS} {C : Nat → Int} {Q : Option Value → px_H → Prop} (kx : ∀ (z : rdS) (c : Nat → Int) (v3 : Value) (M : Nat → Nat → Int), px_qk sh [228, 239, 240, 241, 242, 262] M0 M → (fz [14, 15, 16, 17, 18, 19, 23, 26, 29, 30, 21] M0 M) → (RT M E R.i R) → (M 262 = C) → (M 228 21 = ((nl : Nat) : Int) + 1) → px_R xs L d 293 (213, [.ref 228, .int (iI (k_)), .int (iI (p_)), v3], [], (sh, M)) Q)  : ∀ (mz : Nat) (z : rdS) (c : Nat → Int) (v3 : Value) (M : Nat → Nat → Int), 0 = mz → px_qk sh [228, 239, 240, 241, 242, 262] M0 M → (fz [14, 15, 16, 17, 18, 19, 23, 26, 29, 30, 21] M0 M) → (RT M E z.i z) → (M 262 = c) → (M 228 21 = ((nl : Nat) : Int) + 1) → (od4 E z = R) → (oC4 E nl z c = C) → px_R xs L d 293 (165, [.ref 228, .int (iI (k_)), .int (iI (p_)), v3], [], (sh, M)) Q := by
  intro mz
  induction mz using Nat.strongRecOn with
  | _ mz ih =>
    intro z c v3 M hm hq hrq hS hc h21 hR hC
    refine rr_aload_n pf_293_165 rfl ?_
    refine rr_getR pf_293_166 po_293 pg_9_165 rfl (ws_228 hW) (by decide) (wr_228_54 hq.1) ?_
    refine rr_iload_n pf_293_169 rfl ?_
    refine rr_bipush pf_293_170 (by decide) ?_
    refine rr_iadd pf_293_172 ?_
    refine rr_iconst pf_293_173 ?_
    refine vr_iast (j := (8 * nl + 7)) hW hq pf_293_174 (ws_262 hW) (by omega) (by omega) (by decide) (by unfold rg; omega) (by decide) (fun M1 eM1 q2 => ?_)
    have rq3 := fz_ne hrq eM1 (by decide)
    have hsM1 := RT_u hS eM1 (by decide) (by decide)
    have cc4 : M1 262 = fup c ((8 * nl + 7)) 1 := by rw [up_fup eM1, hc]
    have hk5 : M1 228 21 = ((nl : Nat) : Int) + 1 := by rw [eM1, ask_ne (by decide)]; exact h21
    refine rr_aload_n pf_293_175 rfl ?_
    refine vr_getZ q2 pf_293_176 po_293 pg_9_276 rfl (ws_228 hW) (by decide) (fun x6 hx6 rx6 => ?_)
    rw [hsM1.h19] at hx6
    refine rr_if_ne 213 pf_293_179 (by decide) rx6 (fun c7 => ?_) (fun c7 => ?_)
    · 
      exact kx z c _ M1 q2 (rq3) (by rw [← hR]; unfold od4; rw [if_neg (by omega)]; exact hsM1) (by rw [← hC]; unfold oC4; rw [if_neg (by omega)]; exact cc4) (hk5)
    · refine rr_aload_n pf_293_182 rfl ?_
      refine rr_ldc2_w pf_293_183 po_293 pl_9_568 ?_
      obtain ⟨M8, kq9, hcM8⟩ := ct_RT_isWord (xs := xs) (L := L) (d := d) (u := (21279923)) (E := E) (s := z) (b := z.i) (by omega) hW q2.1 q2.2.1 hsM1 (by unfold rl; omega)
      obtain rfl := qk_nil kq9
      refine rr_cV1 pf_293_186 po_293 pc_9_334 (ws_228 hW) po_226 (by decide) rfl hcM8 ?_
      refine rr_ifb_eq 213 pf_293_189 (by decide) (fun c11 => ?_) (fun c11 => ?_)
      · 
        exact kx z c _ M1 q2 (rq3) (by rw [← hR]; unfold od4; rw [if_neg (by omega)]; exact hsM1) (by rw [← hC]; unfold oC4; rw [if_neg (by omega)]; exact cc4) (hk5)
      · refine rr_aload_n pf_293_192 rfl ?_
        obtain ⟨M12, ⟨kq13, pS_M12, pf_M12⟩, hcM12⟩ := ct_RT_next (xs := xs) (L := L) (d := d) (E := E) (s := z) (b := z.i) (by omega) hW q2.1 q2.2.1 hsM1
        have q13 := qk_trm q2 kq13 (by decide)
        have rq15 := fz_tr rq3 pf_M12 (by decide)
        refine rr_cV0 pf_293_193 po_293 pc_9_280 (ws_228 hW) po_222 (by decide) rfl hcM12 ?_
        have cc16 : M12 262 = (fup c ((8 * nl + 7)) 1) := by rw [kq13.2.2 262 (by decide), cc4]
        have hk17 : M12 228 21 = ((nl : Nat) : Int) + 1 := (pf_M12 21 (by decide)).trans hk5
        have hsn := RT_nb hS.hi hS.hnb pS_M12
        
        refine rr_aload_n pf_293_196 rfl ?_
        refine rr_getR pf_293_197 po_293 pg_9_165 rfl (ws_228 hW) (by decide) (wr_228_54 q13.1) ?_
        refine rr_iload_n pf_293_200 rfl ?_
        refine rr_bipush pf_293_201 (by decide) ?_
        refine rr_iadd pf_293_203 ?_
        refine rr_aload_n pf_293_204 rfl ?_
        refine rr_lconst (w := 1) pf_293_205 rfl ?_
        refine rr_ldc2_w pf_293_206 po_293 pl_9_326 ?_
        obtain ⟨r20, M18, ⟨kq19, pv_M18, pS_M18, pf_M18⟩, hcM18⟩ := ct_RT_number (xs := xs) (L := L) (d := d) (lo := 1) (hi_ := (20)) (E := E) (s := (nxS E z)) (b := (nxS E z).i) (by omega) hW q13.1 q13.2.1 hsn (show z.flt = 0 by omega) (by unfold rl; omega) (by unfold rl; omega)
        have q19 := qk_trm q13 kq19 (by decide)
        have rq21 := fz_tr rq15 pf_M18 (by decide)
        refine rr_cV2 pf_293_209 po_293 pc_9_371 (ws_228 hW) po_238 (by decide) rfl hcM18 ?_
        have cc22 : M18 262 = ((fup c ((8 * nl + 7)) 1)) := by rw [kq19.2.2 262 (by decide), cc16]
        have hk23 : M18 228 21 = ((nl : Nat) : Int) + 1 := (pf_M18 21 (by decide)).trans hk17
        have hsq := RT_b pS_M18 (Nat.le_trans pS_M18.hnb (rNb_i hsn.hi)) (Nat.le_trans pS_M18.hi pS_M18.htn)
        
        rw [← iI_wrp r20]
        refine vr_iast (j := (8 * nl + 7)) hW q19 pf_293_212 (ws_262 hW) (by omega) (by omega) (by decide) (wrp_rg _) (by decide) (fun M24 eM24 q25 => ?_)
        have rq26 := fz_ne rq21 eM24 (by decide)
        have hsM24 := RT_u hsq eM24 (by decide) (by decide)
        have cc27 : M24 262 = fup (((fup c ((8 * nl + 7)) 1))) ((8 * nl + 7)) (wrp r20) := by rw [up_fup eM24, cc22]
        have hk28 : M24 228 21 = ((nl : Nat) : Int) + 1 := by rw [eM24, ask_ne (by decide)]; exact hk23
        
        exact kx z c _ M24 q25 (rq26) (by rw [← hR]; unfold od4; rw [if_pos (by omega)]; exact hsM24) (by rw [← hC]; unfold oC4; rw [if_pos (by omega)]; rw [← pv_M18]; exact cc27) (hk28)
theorem lp_R_readOrder_125 {xs : Nat → Int} {L d : Nat} {sh : List (Nat × Nat)} (hd : 8 ≤ d) (hW : px_W0 <+: sh) {M0 : Nat → Nat → Int}  {E : rdE} {nl : Nat} (hnl2 : nl < 12) {k_ p_ : Int} (hp_ : p_ = 8 * ((nl : Nat) : Int)) (hib : -1 ≤ k_ ∧ k_ < 5) {R : rdS} {C : Nat → Int} {Q : Option Value → px_H → Prop} (kx : ∀ (z : rdS) (c : Nat → Int) (v3 : Value) (M : Nat → Nat → Int), px_qk sh [228, 239, 240, 241, 242, 262] M0 M → (fz [14, 15, 16, 17, 18, 19, 23, 26, 29, 30, 21] M0 M) → (RT M E R.i R) → (M 262 = C) → (M 228 21 = ((nl : Nat) : Int) + 1) → px_R xs L d 293 (165, [.ref 228, .int (iI (k_)), .int (iI (p_)), v3], [], (sh, M)) Q)  : ∀ (mz : Nat) (z : rdS) (c : Nat → Int) (v3 : Value) (M : Nat → Nat → Int), 0 = mz → px_qk sh [228, 239, 240, 241, 242, 262] M0 M → (fz [14, 15, 16, 17, 18, 19, 23, 26, 29, 30, 21] M0 M) → (RT M E z.i z) → (M 262 = c) → (M 228 21 = ((nl : Nat) : Int) + 1) → (od3 E k_ z = R) → (oC3 E k_ nl z c = C) → px_R xs L d 293 (125, [.ref 228, .int (iI (k_)), .int (iI (p_)), v3], [], (sh, M)) Q := by
  intro mz
  induction mz using Nat.strongRecOn with
  | _ mz ih =>
    intro z c v3 M hm hq hrq hS hc h21 hR hC
    refine rr_iload_n pf_293_125 rfl ?_
    refine rr_iconst pf_293_126 ?_
    refine rr_icmp_ge 165 pf_293_127 (by decide) (by unfold rg; omega) (by unfold rg; omega) (fun c1 => ?_) (fun c1 => ?_)
    · exact kx z c _ M hq (hrq) (by rw [← hR]; unfold od3; rw [if_pos (by omega)]; exact hS) (by rw [← hC]; unfold oC3; rw [if_pos (by omega)]; exact hc) (h21)
    · refine rr_aload_n pf_293_130 rfl ?_
      refine vr_getZ hq pf_293_131 po_293 pg_9_276 rfl (ws_228 hW) (by decide) (fun x2 hx2 rx2 => ?_)
      rw [hS.h19] at hx2
      refine rr_if_ne 158 pf_293_134 (by decide) rx2 (fun c3 => ?_) (fun c3 => ?_)
      · have hl : z = od2 E k_ z := by unfold od2; rw [if_pos (show z.flt ≠ 0 by omega)]
        obtain ⟨z1, hz1⟩ : ∃ y, y = od2 E k_ z := ⟨_, rfl⟩
        have hs1 : RT M E z1.i z1 := by rw [hz1, ← hl]; exact hS
        refine rr_aload_n pf_293_158 rfl ?_
        refine rr_iload_n pf_293_159 rfl ?_
        refine rr_iconst pf_293_160 ?_
        refine rr_iadd pf_293_161 ?_
        obtain ⟨M4, ⟨kq5, pS_M4, pC_M4, pf_M4⟩, hcM4⟩ := ct_R_readSum (xs := xs) (L := L) (d := d) (p := 8 * nl + 3) (E := E) (s := z1) (by omega) hW hq.1 hq.2.1 hs1 (by omega)
        rw [show ((8 * nl + 3 : Nat) : Int) = p_ + 3 by omega] at hcM4
        have q5 := qk_trm hq kq5 (by decide)
        have rq7 := fz_tr hrq pf_M4 (by decide)
        refine rr_cV1 pf_293_162 po_293 pc_9_561 (ws_228 hW) po_294 (by decide) rfl hcM4 ?_
        have cc8 : M4 262 = fup (fup c ((8 * nl + 3)) ((z1.nc : Nat) : Int)) ((8 * nl + 3) + 1) (((rSm E z1).nc : Nat) : Int) := by rw [pC_M4, hc]
        have hk9 : M4 228 21 = ((nl : Nat) : Int) + 1 := (pf_M4 21 (by decide)).trans h21
        
        exact kx z c _ M4 q5 (rq7) (by rw [← hR]; unfold od3; rw [if_neg (by omega)]; rw [← hz1]; exact pS_M4) (by rw [← hC]; unfold oC3; rw [if_neg (by omega)]; rw [← hz1]; exact cc8) (hk9)
      · refine rr_aload_n pf_293_137 rfl ?_
        refine rr_aload_n pf_293_138 rfl ?_
        refine rr_iload_n pf_293_139 rfl ?_
        refine rr_if_ne 149 pf_293_140 (by decide) (by unfold rg; omega) (fun c10 => ?_) (fun c10 => ?_)
        · refine rr_ldc2_w pf_293_149 po_293 pl_9_566 ?_
          obtain ⟨M11, kq12, hcM11⟩ := ct_RT_isWord (xs := xs) (L := L) (d := d) (u := (52)) (E := E) (s := z) (b := z.i) (by omega) hW hq.1 hq.2.1 hS (by unfold rl; omega)
          obtain rfl := qk_nil kq12
          refine rr_cV1 pf_293_152 po_293 pc_9_334 (ws_228 hW) po_226 (by decide) rfl hcM11 ?_
          obtain ⟨M14, ⟨kq15, pS_M14, pf_M14⟩, hcM14⟩ := ct_RT_must (xs := xs) (L := L) (d := d) (u := bI (rK E z = 1 ∧ rW E z = (52))) (E := E) (s := z) (b := z.i) (by omega) hW hq.1 hq.2.1 hS (by omega) (by have := bI_rg (rK E z = 1 ∧ rW E z = 52); omega)
          have q15 := qk_trm hq kq15 (by decide)
          have rq17 := fz_tr hrq pf_M14 (by decide)
          refine rr_cV1 pf_293_155 po_293 pc_9_309 (ws_228 hW) po_227 (by decide) rfl hcM14 ?_
          have cc18 : M14 262 = c := by rw [kq15.2.2 262 (by decide), hc]
          have hk19 : M14 228 21 = ((nl : Nat) : Int) + 1 := (pf_M14 21 (by decide)).trans h21
          have hsm := RT_mb hS.hi hS.hnb pS_M14
          
          have hl : (mst E (bI (rK E z = 1 ∧ rW E z = (52))) z) = od2 E k_ z := by unfold od2; rw [if_neg (show ¬ (z.flt ≠ 0) by omega), if_neg (show ¬ (k_ = 0) by omega)]
          obtain ⟨z1, hz1⟩ : ∃ y, y = od2 E k_ z := ⟨_, rfl⟩
          have hs1 : RT M14 E z1.i z1 := by rw [hz1, ← hl]; exact hsm
          refine rr_aload_n pf_293_158 rfl ?_
          refine rr_iload_n pf_293_159 rfl ?_
          refine rr_iconst pf_293_160 ?_
          refine rr_iadd pf_293_161 ?_
          obtain ⟨M20, ⟨kq21, pS_M20, pC_M20, pf_M20⟩, hcM20⟩ := ct_R_readSum (xs := xs) (L := L) (d := d) (p := 8 * nl + 3) (E := E) (s := z1) (by omega) hW q15.1 q15.2.1 hs1 (by omega)
          rw [show ((8 * nl + 3 : Nat) : Int) = p_ + 3 by omega] at hcM20
          have q21 := qk_trm q15 kq21 (by decide)
          have rq23 := fz_tr rq17 pf_M20 (by decide)
          refine rr_cV1 pf_293_162 po_293 pc_9_561 (ws_228 hW) po_294 (by decide) rfl hcM20 ?_
          have cc24 : M20 262 = fup (fup (c) ((8 * nl + 3)) ((z1.nc : Nat) : Int)) ((8 * nl + 3) + 1) (((rSm E z1).nc : Nat) : Int) := by rw [pC_M20, cc18]
          have hk25 : M20 228 21 = ((nl : Nat) : Int) + 1 := (pf_M20 21 (by decide)).trans hk19
          
          exact kx z c _ M20 q21 (rq23) (by rw [← hR]; unfold od3; rw [if_neg (by omega)]; rw [← hz1]; exact pS_M20) (by rw [← hC]; unfold oC3; rw [if_neg (by omega)]; rw [← hz1]; exact cc24) (hk25)
        · refine rr_ldc2_w pf_293_143 po_293 pl_9_564 ?_
          refine rr_goto 152 pf_293_146 (by decide) ?_
          obtain ⟨M26, kq27, hcM26⟩ := ct_RT_isWord (xs := xs) (L := L) (d := d) (u := (486)) (E := E) (s := z) (b := z.i) (by omega) hW hq.1 hq.2.1 hS (by unfold rl; omega)
          obtain rfl := qk_nil kq27
          refine rr_cV1 pf_293_152 po_293 pc_9_334 (ws_228 hW) po_226 (by decide) rfl hcM26 ?_
          obtain ⟨M29, ⟨kq30, pS_M29, pf_M29⟩, hcM29⟩ := ct_RT_must (xs := xs) (L := L) (d := d) (u := bI (rK E z = 1 ∧ rW E z = (486))) (E := E) (s := z) (b := z.i) (by omega) hW hq.1 hq.2.1 hS (by omega) (by have := bI_rg (rK E z = 1 ∧ rW E z = 486); omega)
          have q30 := qk_trm hq kq30 (by decide)
          have rq32 := fz_tr hrq pf_M29 (by decide)
          refine rr_cV1 pf_293_155 po_293 pc_9_309 (ws_228 hW) po_227 (by decide) rfl hcM29 ?_
          have cc33 : M29 262 = c := by rw [kq30.2.2 262 (by decide), hc]
          have hk34 : M29 228 21 = ((nl : Nat) : Int) + 1 := (pf_M29 21 (by decide)).trans h21
          have hsm := RT_mb hS.hi hS.hnb pS_M29
          
          have hl : (mst E (bI (rK E z = 1 ∧ rW E z = (486))) z) = od2 E k_ z := by unfold od2; rw [if_neg (show ¬ (z.flt ≠ 0) by omega), if_pos (show k_ = 0 by omega)]
          obtain ⟨z1, hz1⟩ : ∃ y, y = od2 E k_ z := ⟨_, rfl⟩
          have hs1 : RT M29 E z1.i z1 := by rw [hz1, ← hl]; exact hsm
          refine rr_aload_n pf_293_158 rfl ?_
          refine rr_iload_n pf_293_159 rfl ?_
          refine rr_iconst pf_293_160 ?_
          refine rr_iadd pf_293_161 ?_
          obtain ⟨M35, ⟨kq36, pS_M35, pC_M35, pf_M35⟩, hcM35⟩ := ct_R_readSum (xs := xs) (L := L) (d := d) (p := 8 * nl + 3) (E := E) (s := z1) (by omega) hW q30.1 q30.2.1 hs1 (by omega)
          rw [show ((8 * nl + 3 : Nat) : Int) = p_ + 3 by omega] at hcM35
          have q36 := qk_trm q30 kq36 (by decide)
          have rq38 := fz_tr rq32 pf_M35 (by decide)
          refine rr_cV1 pf_293_162 po_293 pc_9_561 (ws_228 hW) po_294 (by decide) rfl hcM35 ?_
          have cc39 : M35 262 = fup (fup (c) ((8 * nl + 3)) ((z1.nc : Nat) : Int)) ((8 * nl + 3) + 1) (((rSm E z1).nc : Nat) : Int) := by rw [pC_M35, cc33]
          have hk40 : M35 228 21 = ((nl : Nat) : Int) + 1 := (pf_M35 21 (by decide)).trans hk34
          
          exact kx z c _ M35 q36 (rq38) (by rw [← hR]; unfold od3; rw [if_neg (by omega)]; rw [← hz1]; exact pS_M35) (by rw [← hC]; unfold oC3; rw [if_neg (by omega)]; rw [← hz1]; exact cc39) (hk40)
theorem lp_R_readOrder_113 {xs : Nat → Int} {L d : Nat} {sh : List (Nat × Nat)} (hd : 8 ≤ d) (hW : px_W0 <+: sh) {M0 : Nat → Nat → Int}  {E : rdE} {nl : Nat} (hnl2 : nl < 12) {k_ p_ : Int} (hp_ : p_ = 8 * ((nl : Nat) : Int)) (hib : -1 ≤ k_ ∧ k_ < 5) {R : rdS} {C : Nat → Int} {Q : Option Value → px_H → Prop} (kx : ∀ (z : rdS) (c : Nat → Int) (v3 : Value) (M : Nat → Nat → Int), px_qk sh [228, 239, 240, 241, 242, 262] M0 M → (fz [14, 15, 16, 17, 18, 19, 23, 26, 29, 30, 21] M0 M) → (RT M E R.i R) → (M 262 = C) → (M 228 21 = ((nl : Nat) : Int) + 1) → px_R xs L d 293 (125, [.ref 228, .int (iI (k_)), .int (iI (p_)), v3], [], (sh, M)) Q)  : ∀ (mz : Nat) (z : rdS) (c : Nat → Int) (v3 : Value) (M : Nat → Nat → Int), 0 = mz → px_qk sh [228, 239, 240, 241, 242, 262] M0 M → (fz [14, 15, 16, 17, 18, 19, 23, 26, 29, 30, 21] M0 M) → (RT M E z.i z) → (M 262 = c) → (M 228 21 = ((nl : Nat) : Int) + 1) → (od1 E k_ z = R) → (oC1 E k_ nl z c = C) → px_R xs L d 293 (113, [.ref 228, .int (iI (k_)), .int (iI (p_)), v3], [], (sh, M)) Q := by
  intro mz
  induction mz using Nat.strongRecOn with
  | _ mz ih =>
    intro z c v3 M hm hq hrq hS hc h21 hR hC
    refine rr_iload_n pf_293_113 rfl ?_
    refine rr_iconst pf_293_114 ?_
    refine rr_icmp_eq 125 pf_293_115 (by decide) (by unfold rg; omega) (by unfold rg; omega) (fun c1 => ?_) (fun c1 => ?_)
    · exact kx z c _ M hq (hrq) (by rw [← hR]; unfold od1; rw [if_pos (by omega)]; exact hS) (by rw [← hC]; unfold oC1; rw [if_pos (by omega)]; exact hc) (h21)
    · refine rr_aload_n pf_293_118 rfl ?_
      refine rr_iload_n pf_293_119 rfl ?_
      refine rr_iconst pf_293_120 ?_
      refine rr_iadd pf_293_121 ?_
      obtain ⟨M2, ⟨kq3, pS_M2, pC_M2, pf_M2⟩, hcM2⟩ := ct_R_readSum (xs := xs) (L := L) (d := d) (p := 8 * nl + 1) (E := E) (s := z) (by omega) hW hq.1 hq.2.1 hS (by omega)
      rw [show ((8 * nl + 1 : Nat) : Int) = p_ + 1 by omega] at hcM2
      have q3 := qk_trm hq kq3 (by decide)
      have rq5 := fz_tr hrq pf_M2 (by decide)
      refine rr_cV1 pf_293_122 po_293 pc_9_561 (ws_228 hW) po_294 (by decide) rfl hcM2 ?_
      have cc6 : M2 262 = fup (fup c ((8 * nl + 1)) ((z.nc : Nat) : Int)) ((8 * nl + 1) + 1) (((rSm E z).nc : Nat) : Int) := by rw [pC_M2, hc]
      have hk7 : M2 228 21 = ((nl : Nat) : Int) + 1 := (pf_M2 21 (by decide)).trans h21
      
      exact kx z c _ M2 q3 (rq5) (by rw [← hR]; unfold od1; rw [if_neg (by omega)]; exact pS_M2) (by rw [← hC]; unfold oC1; rw [if_neg (by omega)]; exact cc6) (hk7)
theorem lp_R_readOrder_85 {xs : Nat → Int} {L d : Nat} {sh : List (Nat × Nat)} (hd : 8 ≤ d) (hW : px_W0 <+: sh) {M0 : Nat → Nat → Int}  {nl : Nat} (hnl2 : nl < 12) {k_ p_ : Int} (hp_ : p_ = 8 * ((nl : Nat) : Int))  {Q : Option Value → px_H → Prop} (kx : ∀ (j : Nat) (M : Nat → Nat → Int), px_qk sh [262] M0 M → (M 262 = zr (M0 262) (8 * nl) 8) → px_R xs L d 293 (106, [.ref 228, .int (iI (k_)), .int (iI (p_)), .int (iI (((j : Nat) : Int)))], [], (sh, M)) Q)  : ∀ (mz : Nat) (j : Nat) (M : Nat → Nat → Int), 8 - j = mz → px_qk sh [262] M0 M → (j ≤ 8) → (M 262 = zr (M0 262) (8 * nl) j) → px_R xs L d 293 (85, [.ref 228, .int (iI (k_)), .int (iI (p_)), .int (iI (((j : Nat) : Int)))], [], (sh, M)) Q := by
  intro mz
  induction mz using Nat.strongRecOn with
  | _ mz ih =>
    intro j M hm hq hj hz
    refine rr_iload_n pf_293_85 rfl ?_
    refine rr_bipush pf_293_86 (by decide) ?_
    refine rr_icmp_ge 106 pf_293_88 (by decide) (by unfold rg; omega) (by unfold rg; omega) (fun c1 => ?_) (fun c1 => ?_)
    · exact kx j M hq (by rw [hz, show j = 8 by omega])
    · refine rr_aload_n pf_293_91 rfl ?_
      refine rr_getR pf_293_92 po_293 pg_9_165 rfl (ws_228 hW) (by decide) (wr_228_54 hq.1) ?_
      refine rr_iload_n pf_293_95 rfl ?_
      refine rr_iload_n pf_293_96 rfl ?_
      refine rr_iadd pf_293_97 ?_
      refine rr_iconst pf_293_98 ?_
      refine vr_iast (j := (8 * nl + j)) hW hq pf_293_99 (ws_262 hW) (by omega) (by omega) (by decide) (by unfold rg; omega) (by decide) (fun M2 eM2 q3 => ?_)
      refine rr_iinc pf_293_100 rfl (fun y => [.ref 228, .int (iI (k_)), .int (iI (p_)), .int (iI (y))]) (fun _ => rfl) (fun y4 hy4 => ?_)
      refine rr_goto 85 pf_293_103 (by decide) ?_
      obtain ⟨nz5, hnz5, rfl⟩ : ∃ zz : Nat, zz = 1 + j ∧ y4 = ((zz : Nat) : Int) := ⟨1 + j, rfl, by omega⟩
      exact ih _ (by omega) nz5 M2 rfl q3 (by omega) (by rw [show nz5 = j + 1 by omega, zr, ← hz]; exact up_fup eM2)
theorem lp_R_readOrder_4 {xs : Nat → Int} {L d : Nat} {sh : List (Nat × Nat)} (hd : 8 ≤ d) (hW : px_W0 <+: sh) {M0 : Nat → Nat → Int}  {E : rdE} {s : rdS} (hs : RT M0 E s.i s) {lw : Nat → Int} (hlw : ∀ k, k < 5 → M0 261 k = lw k ∧ 0 ≤ lw k ∧ lw k ≤ 1125899906842624)  {Q : Option Value → px_H → Prop} (kx : ∀ (its : Int) (k : Nat) (v3 : Value) (M : Nat → Nat → Int), px_qk sh [] M0 M → (its = kAt lw (rK E s) (rW E s) 5) → px_R xs L d 293 (34, [.ref 228, .int (iI (its)), .int (iI (((k : Nat) : Int))), v3], [], (sh, M)) Q)  : ∀ (mz : Nat) (its : Int) (k : Nat) (v3 : Value) (M : Nat → Nat → Int), 5 - k = mz → px_qk sh [] M0 M → (k ≤ 5) → (its = kAt lw (rK E s) (rW E s) k) → px_R xs L d 293 (4, [.ref 228, .int (iI (its)), .int (iI (((k : Nat) : Int))), v3], [], (sh, M)) Q := by
  intro mz
  induction mz using Nat.strongRecOn with
  | _ mz ih =>
    intro its k v3 M hm hq hk hI
    have hpb := kAt_b lw (rK E s) (rW E s) k
    refine rr_iload_n pf_293_4 rfl ?_
    refine rr_iconst pf_293_5 ?_
    refine rr_icmp_ge 34 pf_293_6 (by decide) (by unfold rg; omega) (by unfold rg; omega) (fun c1 => ?_) (fun c1 => ?_)
    · exact kx its k _ M hq (by rw [hI, show k = 5 by omega])
    · refine rr_aload_n pf_293_9 rfl ?_
      refine rr_aload_n pf_293_10 rfl ?_
      refine rr_getR pf_293_11 po_293 pg_9_162 rfl (ws_228 hW) (by decide) (wr_228_53 hq.1) ?_
      refine rr_iload_n pf_293_14 rfl ?_
      refine vr_lald (j := k) hq pf_293_15 (ws_261 hW) (by omega) (by omega) (by decide) (fun x2 hx2 rx2 => ?_)
      rw [hq.2.2 261 (by decide)] at hx2
      rw [(hlw k (by omega)).1] at hx2
      have hfb := (hlw k (by omega)).2
      obtain ⟨M3, kq4, hcM3⟩ := ct_RT_isWord (xs := xs) (L := L) (d := d) (u := x2) (E := E) (s := s) (b := s.i) (by omega) hW hq.1 hq.2.1 (RT_nil hq hs) (by unfold rl; omega)
      obtain rfl := qk_nil kq4
      refine rr_cV1 pf_293_16 po_293 pc_9_334 (ws_228 hW) po_226 (by decide) rfl hcM3 ?_
      refine rr_ifb_eq 26 pf_293_19 (by decide) (fun c6 => ?_) (fun c6 => ?_)
      · refine rr_iload_n pf_293_26 rfl ?_
        refine rr_istore_n pf_293_27 (fun y => [.ref 228, .int (iI (y)), .int (iI (((k : Nat) : Int))), v3]) (Nat.le_of_ble_eq_true rfl) (fun _ => rfl) (fun y7 hy7 => ?_)
        refine rr_iinc pf_293_28 rfl (fun y => [.ref 228, .int (iI (y7)), .int (iI (y)), v3]) (fun _ => rfl) (fun y8 hy8 => ?_)
        refine rr_goto 4 pf_293_31 (by decide) ?_
        obtain ⟨nz9, hnz9, rfl⟩ : ∃ zz : Nat, zz = 1 + k ∧ y8 = ((zz : Nat) : Int) := ⟨1 + k, rfl, by omega⟩
        exact ih _ (by omega) y7 nz9 _ M rfl hq (by omega) (by rw [show nz9 = k + 1 by omega, kAt, if_neg (by omega)]; omega)
      · refine rr_iload_n pf_293_22 rfl ?_
        refine rr_goto 27 pf_293_23 (by decide) ?_
        refine rr_istore_n pf_293_27 (fun y => [.ref 228, .int (iI (y)), .int (iI (((k : Nat) : Int))), v3]) (Nat.le_of_ble_eq_true rfl) (fun _ => rfl) (fun y10 hy10 => ?_)
        refine rr_iinc pf_293_28 rfl (fun y => [.ref 228, .int (iI (y10)), .int (iI (y)), v3]) (fun _ => rfl) (fun y11 hy11 => ?_)
        refine rr_goto 4 pf_293_31 (by decide) ?_
        obtain ⟨nz12, hnz12, rfl⟩ : ∃ zz : Nat, zz = 1 + k ∧ y11 = ((zz : Nat) : Int) := ⟨1 + k, rfl, by omega⟩
        exact ih _ (by omega) y10 nz12 _ M rfl hq (by omega) (by rw [show nz12 = k + 1 by omega, kAt, if_pos (by omega)]; omega)
theorem ct_R_readOrder {xs : Nat → Int} {L d : Nat} {sh : List (Nat × Nat)} {M0 : Nat → Nat → Int} (hd : 9 ≤ d) (hW : px_W0 <+: sh) (hF : px_Fx M0) (hG : px_RG sh M0)  {E : rdE} {s : rdS} (hs : RT M0 E s.i s) (hf : s.flt = 0) {nl : Nat} (h21 : M0 228 21 = ((nl : Nat) : Int)) (hnl : nl ≤ 12) {lw : Nat → Int} (hlw : ∀ k, k < 5 → M0 261 k = lw k ∧ 0 ≤ lw k ∧ lw k ≤ 1125899906842624) : ∃ M, (px_qk sh [228, 239, 240, 241, 242, 262] M0 M ∧ (RT M E (if kAt lw (rK E s) (rW E s) 5 = -1 ∨ 12 ≤ nl then fl E s else lw2 E (oS4 E (kAt lw (rK E s) (rW E s) 5) s)).i (if kAt lw (rK E s) (rW E s) 5 = -1 ∨ 12 ≤ nl then fl E s else lw2 E (oS4 E (kAt lw (rK E s) (rW E s) 5) s))) ∧ (M 228 21 = (((if kAt lw (rK E s) (rW E s) 5 = -1 ∨ 12 ≤ nl then nl else nl + 1) : Nat) : Int)) ∧ (M 262 = if kAt lw (rK E s) (rW E s) 5 = -1 ∨ 12 ≤ nl then M0 262 else oCs E (kAt lw (rK E s) (rW E s) 5) nl s (M0 262)) ∧ (fz [14, 15, 16, 17, 18, 19, 23, 26, 29, 30, 21] M0 M)) ∧ px_Cl xs L d 293 [.ref 228] (sh, M0) (none) (sh, M) := by
  obtain ⟨d, rfl⟩ : ∃ e, d = e + 1 := ⟨d - 1, by omega⟩
  have q0 : px_qk sh [228, 239, 240, 241, 242, 262] M0 M0 := ⟨hF, hG, eo_rf⟩
  have hi := hs.hi
  have htn := hs.htn
  have hnb := hs.hnb
  refine vc_n (Nat.le_of_ble_eq_true rfl) ?_
  show px_R xs L d 293 (0, [.ref 228, px_jk, px_jk, px_jk], [], (sh, M0)) (fun r h' => r = none ∧ ∃ M', h' = (sh, M') ∧ px_qk sh [228, 239, 240, 241, 242, 262] M0 M' ∧ (RT M' E (if kAt lw (rK E s) (rW E s) 5 = -1 ∨ 12 ≤ nl then fl E s else lw2 E (oS4 E (kAt lw (rK E s) (rW E s) 5) s)).i (if kAt lw (rK E s) (rW E s) 5 = -1 ∨ 12 ≤ nl then fl E s else lw2 E (oS4 E (kAt lw (rK E s) (rW E s) 5) s))) ∧ (M' 228 21 = (((if kAt lw (rK E s) (rW E s) 5 = -1 ∨ 12 ≤ nl then nl else nl + 1) : Nat) : Int)) ∧ (M' 262 = if kAt lw (rK E s) (rW E s) 5 = -1 ∨ 12 ≤ nl then M0 262 else oCs E (kAt lw (rK E s) (rW E s) 5) nl s (M0 262)) ∧ fz [14, 15, 16, 17, 18, 19, 23, 26, 29, 30, 21] M0 M')
  refine rr_iconst pf_293_0 ?_
  refine rr_istore_n pf_293_1 (fun y => [.ref 228, .int (iI (y)), px_jk, px_jk]) (Nat.le_of_ble_eq_true rfl) (fun _ => rfl) (fun y1 hy1 => ?_)
  refine rr_iconst pf_293_2 ?_
  refine rr_istore_n pf_293_3 (fun y => [.ref 228, .int (iI (y1)), .int (iI (y)), px_jk]) (Nat.le_of_ble_eq_true rfl) (fun _ => rfl) (fun y2 hy2 => ?_)
  obtain ⟨nz3, hnz3, rfl⟩ : ∃ zz : Nat, zz = 0 ∧ y2 = ((zz : Nat) : Int) := ⟨0, rfl, by omega⟩
  refine lp_R_readOrder_4 (xs := xs) (L := L) (d := d) (by omega) hW hs hlw (fun its_4 k_5 v8 M6 q7 xI_M6 => ?_) _ y1 nz3 _ M0 rfl ⟨q0.1, q0.2.1, eo_rf⟩ (by omega) (by rw [show nz3 = 0 by omega]; exact hy1)
  have q9 := qk_trm q0 q7 (by decide)
  have rq10 := fz_q (fz_rf [14, 15, 16, 17, 18, 19, 23, 26, 29, 30, 21] M0) q7 (by decide)
  obtain rfl := qk_nil q7
  have hI := xI_M6
  have hkb := kAt_b lw (rK E s) (rW E s) 5
  refine rr_aload_n pf_293_34 rfl ?_
  refine rr_iload_n pf_293_35 rfl ?_
  refine rr_iconst pf_293_36 ?_
  refine rr_icmp_eq 53 pf_293_37 (by decide) (by unfold rg; omega) (by unfold rg; omega) (fun c11 => ?_) (fun c11 => ?_)
  · refine rr_iconst pf_293_53 ?_
    obtain ⟨M12, ⟨kq13, pS_M12, pf_M12⟩, hcM12⟩ := ct_RT_must (xs := xs) (L := L) (d := d) (u := 0) (E := E) (s := s) (b := s.i) (by omega) hW q9.1 q9.2.1 hs hf (by omega)
    have q13 := qk_trm q9 kq13 (by decide)
    have rq15 := fz_tr rq10 pf_M12 (by decide)
    refine rr_cV1 pf_293_54 po_293 pc_9_309 (ws_228 hW) po_227 (by decide) rfl hcM12 ?_
    rw [mst0] at pS_M12
    have cc16 : M12 262 = (M0 262) := by rw [kq13.2.2 262 (by decide), (rfl : M0 262 = M0 262)]
    have hk17 : M12 228 21 = ((nl : Nat) : Int) := (pf_M12 21 (by decide)).trans h21
    have hcond : kAt lw (rK E s) (rW E s) 5 = -1 ∨ 12 ≤ nl := by omega
    have hib : -1 ≤ its_4 ∧ its_4 < 5 := by omega
    have hJ : eqI its_4 (kAt lw (rK E s) (rW E s) 5) := hI
    clear hI hkb xI_M6
    
    refine rr_aload_n pf_293_57 rfl ?_
    refine vr_getZ q13 pf_293_58 po_293 pg_9_276 rfl (ws_228 hW) (by decide) (fun x18 hx18 rx18 => ?_)
    rw [pS_M12.h19] at hx18
    change x18 = 1 at hx18
    refine rr_if_eq 65 pf_293_61 (by decide) rx18 (fun c19 => ?_) (fun c19 => ?_)
    · exfalso; omega
    · refine rr_vret pf_293_64 pt_293 ⟨rfl, M12, rfl, q13, (by rw [if_pos hcond]; exact pS_M12), (by rw [if_pos hcond]; exact hk17), (by rw [if_pos hcond]; exact cc16), (rq15)⟩
  · refine rr_aload_n pf_293_40 rfl ?_
    refine vr_getI q9 pf_293_41 po_293 pg_9_407 rfl (ws_228 hW) (by decide) (fun x20 hx20 rx20 => ?_)
    rw [h21] at hx20
    refine rr_bipush pf_293_44 (by decide) ?_
    refine rr_icmp_ge 53 pf_293_46 (by decide) rx20 (by unfold rg; omega) (fun c21 => ?_) (fun c21 => ?_)
    · refine rr_iconst pf_293_53 ?_
      obtain ⟨M22, ⟨kq23, pS_M22, pf_M22⟩, hcM22⟩ := ct_RT_must (xs := xs) (L := L) (d := d) (u := 0) (E := E) (s := s) (b := s.i) (by omega) hW q9.1 q9.2.1 hs hf (by omega)
      have q23 := qk_trm q9 kq23 (by decide)
      have rq25 := fz_tr rq10 pf_M22 (by decide)
      refine rr_cV1 pf_293_54 po_293 pc_9_309 (ws_228 hW) po_227 (by decide) rfl hcM22 ?_
      rw [mst0] at pS_M22
      have cc26 : M22 262 = (M0 262) := by rw [kq23.2.2 262 (by decide), (rfl : M0 262 = M0 262)]
      have hk27 : M22 228 21 = ((nl : Nat) : Int) := (pf_M22 21 (by decide)).trans h21
      have hcond : kAt lw (rK E s) (rW E s) 5 = -1 ∨ 12 ≤ nl := by omega
      have hib : -1 ≤ its_4 ∧ its_4 < 5 := by omega
      have hJ : eqI its_4 (kAt lw (rK E s) (rW E s) 5) := hI
      clear hI hkb xI_M6
      
      refine rr_aload_n pf_293_57 rfl ?_
      refine vr_getZ q23 pf_293_58 po_293 pg_9_276 rfl (ws_228 hW) (by decide) (fun x28 hx28 rx28 => ?_)
      rw [pS_M22.h19] at hx28
      change x28 = 1 at hx28
      refine rr_if_eq 65 pf_293_61 (by decide) rx28 (fun c29 => ?_) (fun c29 => ?_)
      · exfalso; omega
      · refine rr_vret pf_293_64 pt_293 ⟨rfl, M22, rfl, q23, (by rw [if_pos hcond]; exact pS_M22), (by rw [if_pos hcond]; exact hk27), (by rw [if_pos hcond]; exact cc26), (rq25)⟩
    · refine rr_iconst pf_293_49 ?_
      refine rr_goto 54 pf_293_50 (by decide) ?_
      obtain ⟨M30, ⟨kq31, pS_M30, pf_M30⟩, hcM30⟩ := ct_RT_must (xs := xs) (L := L) (d := d) (u := 1) (E := E) (s := s) (b := s.i) (by omega) hW q9.1 q9.2.1 hs hf (by omega)
      have q31 := qk_trm q9 kq31 (by decide)
      have rq33 := fz_tr rq10 pf_M30 (by decide)
      refine rr_cV1 pf_293_54 po_293 pc_9_309 (ws_228 hW) po_227 (by decide) rfl hcM30 ?_
      rw [mst1] at pS_M30
      have cc34 : M30 262 = (M0 262) := by rw [kq31.2.2 262 (by decide), (rfl : M0 262 = M0 262)]
      have hk35 : M30 228 21 = ((nl : Nat) : Int) := (pf_M30 21 (by decide)).trans h21
      have hcond : ¬ (kAt lw (rK E s) (rW E s) 5 = -1 ∨ 12 ≤ nl) := by omega
      have hib : -1 ≤ its_4 ∧ its_4 < 5 := by omega
      have hJ : eqI its_4 (kAt lw (rK E s) (rW E s) 5) := hI
      clear hI hkb xI_M6
      have hsb1 := RT_nb hs.hi hs.hnb pS_M30
      
      refine rr_aload_n pf_293_57 rfl ?_
      refine vr_getZ q31 pf_293_58 po_293 pg_9_276 rfl (ws_228 hW) (by decide) (fun x36 hx36 rx36 => ?_)
      rw [hsb1.h19] at hx36
      change x36 = s.flt at hx36
      refine rr_if_eq 65 pf_293_61 (by decide) rx36 (fun c37 => ?_) (fun c37 => ?_)
      · have hnl2 : nl < 12 := by omega
        refine rr_bipush pf_293_65 (by decide) ?_
        refine rr_aload_n pf_293_67 rfl ?_
        refine vr_getI q31 pf_293_68 po_293 pg_9_407 rfl (ws_228 hW) (by decide) (fun x38 hx38 rx38 => ?_)
        rw [hk35] at hx38
        refine rr_imul pf_293_71 ?_
        refine rr_istore_n pf_293_72 (fun y => [.ref 228, .int (iI (its_4)), .int (iI (y)), v8]) (Nat.le_of_ble_eq_true rfl) (fun _ => rfl) (fun y39 hy39 => ?_)
        refine rr_aload_n pf_293_73 rfl ?_
        refine rr_dup pf_293_74 rfl ?_
        refine vr_getI q31 pf_293_75 po_293 pg_9_407 rfl (ws_228 hW) (by decide) (fun x40 hx40 rx40 => ?_)
        rw [hk35] at hx40
        refine rr_iconst pf_293_78 ?_
        refine rr_iadd pf_293_79 ?_
        refine vr_putI hW q31 pf_293_80 po_293 pg_9_407 (Or.inl rfl) rfl (ws_228 hW) (by decide) (by unfold rg; omega) (by decide) (fun M41 eM41 q42 => ?_)
        have rq43 := fz_up rq33 eM41 (by decide)
        have hsM41 := RT_21 hsb1 eM41
        have cc44 : M41 262 = ((M0 262)) := by rw [eM41, ask_ne (by decide), cc34]
        have hk45 : M41 228 21 = ((nl : Nat) : Int) + 1 := by rw [eM41, up_s]; omega
        refine rr_iconst pf_293_83 ?_
        refine rr_istore_n pf_293_84 (fun y => [.ref 228, .int (iI (its_4)), .int (iI (y39)), .int (iI (y))]) (Nat.le_of_ble_eq_true rfl) (fun _ => rfl) (fun y46 hy46 => ?_)
        have hp_ : y39 = 8 * ((nl : Nat) : Int) := by omega
        obtain ⟨nz47, hnz47, rfl⟩ : ∃ zz : Nat, zz = 0 ∧ y46 = ((zz : Nat) : Int) := ⟨0, rfl, by omega⟩
        refine lp_R_readOrder_85 (xs := xs) (L := L) (d := d) (by omega) hW hnl2 hp_ (fun j_48  M49 q50 xz_M49 => ?_) _ nz47 M41 rfl ⟨q42.1, q42.2.1, eo_rf⟩ (by omega) (by rw [show nz47 = 0 by omega]; rfl)
        have q51 := qk_trm q42 q50 (by decide)
        have rq52 := fz_q rq43 q50 (by decide)
        have hsM49 := RT_k hsM41 q50 (by decide) (by decide)
        have cc53 : M49 262 = zr (M0 262) (8 * nl) 8 := by rw [xz_M49, cc44]
        have hk54 : M49 228 21 = ((nl : Nat) : Int) + 1 := by rw [q50.2.2 228 (by decide)]; exact hk45
        
        refine rr_aload_n pf_293_106 rfl ?_
        refine rr_getR pf_293_107 po_293 pg_9_165 rfl (ws_228 hW) (by decide) (wr_228_54 q51.1) ?_
        refine rr_iload_n pf_293_110 rfl ?_
        refine rr_iload_n pf_293_111 rfl ?_
        refine vr_iast (j := (8 * nl)) hW q51 pf_293_112 (ws_262 hW) (by omega) (by omega) (by decide) (by unfold rg; omega) (by decide) (fun M55 eM55 q56 => ?_)
        have rq57 := fz_ne rq52 eM55 (by decide)
        have hsM55 := RT_u hsM49 eM55 (by decide) (by decide)
        have cc58 : M55 262 = fup (zr (M0 262) (8 * nl) 8) ((8 * nl)) its_4 := by rw [up_fup eM55, cc53]
        have hk59 : M55 228 21 = ((nl : Nat) : Int) + 1 := by rw [eM55, ask_ne (by decide)]; exact hk54
        refine lp_R_readOrder_113 (xs := xs) (L := L) (d := d) (by omega) hW hnl2 hp_ hib (fun z_60 c_61 v64 M62 q63 xrq_M62 xS_M62 xc_M62 x21_M62 => ?_) _ (nxS E s) (fup (zr (M0 262) (8 * nl) 8) ((8 * nl)) its_4) _ M55 rfl q56 (rq57) (hsM55) (cc58) (hk59) (by rfl) (by rfl)
        obtain ⟨za, hza⟩ : ∃ y, y = od1 E its_4 (nxS E s) := ⟨_, rfl⟩
        obtain ⟨ca, hca⟩ : ∃ y, y = oC1 E its_4 nl (nxS E s) (fup (zr (M0 262) (8 * nl) 8) ((8 * nl)) its_4) := ⟨_, rfl⟩
        rw [← hza] at xS_M62
        rw [← hca] at xc_M62
        
        refine lp_R_readOrder_125 (xs := xs) (L := L) (d := d) (by omega) hW hnl2 hp_ hib (fun z_65 c_66 v69 M67 q68 xrq_M67 xS_M67 xc_M67 x21_M67 => ?_) _ za ca _ M62 rfl q63 (xrq_M62) (xS_M62) (xc_M62) (x21_M62) (by rfl) (by rfl)
        obtain ⟨zb, hzb⟩ : ∃ y, y = od3 E its_4 za := ⟨_, rfl⟩
        obtain ⟨cb, hcb⟩ : ∃ y, y = oC3 E its_4 nl za ca := ⟨_, rfl⟩
        rw [← hzb] at xS_M67
        rw [← hcb] at xc_M67
        
        refine lp_R_readOrder_165 (xs := xs) (L := L) (d := d) (by omega) hW hnl2 hp_ hib (fun z_70 c_71 v74 M72 q73 xrq_M72 xS_M72 xc_M72 x21_M72 => ?_) _ zb cb _ M67 rfl q68 (xrq_M67) (xS_M67) (xc_M67) (x21_M67) (by rfl) (by rfl)
        obtain ⟨zd, hzd⟩ : ∃ y, y = od4 E zb := ⟨_, rfl⟩
        obtain ⟨cd, hcd⟩ : ∃ y, y = oC4 E nl zb cb := ⟨_, rfl⟩
        rw [← hzd] at xS_M72
        rw [← hcd] at xc_M72
        
        refine rr_aload_n pf_293_213 rfl ?_
        refine rr_getR pf_293_214 po_293 pg_9_165 rfl (ws_228 hW) (by decide) (wr_228_54 q73.1) ?_
        refine rr_iload_n pf_293_217 rfl ?_
        refine rr_iconst pf_293_218 ?_
        refine rr_iadd pf_293_219 ?_
        refine rr_aload_n pf_293_220 rfl ?_
        refine vr_getI q73 pf_293_221 po_293 pg_9_313 rfl (ws_228 hW) (by decide) (fun x75 hx75 rx75 => ?_)
        rw [xS_M72.h23] at hx75
        refine vr_iast (j := (8 * nl + 5)) hW q73 pf_293_224 (ws_262 hW) (by omega) (by omega) (by decide) rx75 (by decide) (fun M76 eM76 q77 => ?_)
        have rq78 := fz_ne xrq_M72 eM76 (by decide)
        have hsM76 := RT_u xS_M72 eM76 (by decide) (by decide)
        have cc79 : M76 262 = fup cd ((8 * nl + 5)) x75 := by rw [up_fup eM76, xc_M72]
        have hk80 : M76 228 21 = ((nl : Nat) : Int) + 1 := by rw [eM76, ask_ne (by decide)]; exact x21_M72
        refine rr_aload_n pf_293_225 rfl ?_
        refine vr_getZ q77 pf_293_226 po_293 pg_9_276 rfl (ws_228 hW) (by decide) (fun x81 hx81 rx81 => ?_)
        rw [hsM76.h19] at hx81
        refine rr_if_ne 251 pf_293_229 (by decide) rx81 (fun c82 => ?_) (fun c82 => ?_)
        · have hl2 : zd = lw2 E zd := by unfold lw2; rw [if_neg (by omega)]
          obtain ⟨z2, hz2⟩ : ∃ z, z = lw2 E zd := ⟨_, rfl⟩
          have hsl2 : RT M76 E z2.i z2 := by rw [hz2, ← hl2]; exact hsM76
          refine rr_aload_n pf_293_251 rfl ?_
          refine rr_getR pf_293_252 po_293 pg_9_165 rfl (ws_228 hW) (by decide) (wr_228_54 q77.1) ?_
          refine rr_iload_n pf_293_255 rfl ?_
          refine rr_bipush pf_293_256 (by decide) ?_
          refine rr_iadd pf_293_258 ?_
          refine rr_aload_n pf_293_259 rfl ?_
          refine vr_getI q77 pf_293_260 po_293 pg_9_313 rfl (ws_228 hW) (by decide) (fun x83 hx83 rx83 => ?_)
          rw [hsl2.h23] at hx83
          refine vr_iast (j := (8 * nl + 6)) hW q77 pf_293_263 (ws_262 hW) (by omega) (by omega) (by decide) rx83 (by decide) (fun M84 eM84 q85 => ?_)
          have rq86 := fz_ne rq78 eM84 (by decide)
          have hsM84 := RT_u hsl2 eM84 (by decide) (by decide)
          have cc87 : M84 262 = fup (fup cd ((8 * nl + 5)) x75) ((8 * nl + 6)) x83 := by rw [up_fup eM84, cc79]
          have hk88 : M84 228 21 = ((nl : Nat) : Int) + 1 := by rw [eM84, ask_ne (by decide)]; exact hk80
          refine rr_vret pf_293_264 pt_293 ⟨rfl, M84, rfl, q85, (by rw [if_neg hcond]; have hI : its_4 = kAt lw (rK E s) (rW E s) 5 := hJ; rw [← hI]; unfold oS4; rw [← hza, ← hzb, ← hzd, ← hz2]; exact hsM84), (by rw [if_neg hcond]; have z := hk88; omega), (by rw [if_neg hcond]; have hI : its_4 = kAt lw (rK E s) (rW E s) 5 := hJ; rw [← hI]; unfold oCs oS4 oC6; rw [← hza, ← hzb, ← hzd, ← hz2, ← hca, ← hcb, ← hcd, cc87, hx75, hx83]), (rq86)⟩
        · refine rr_aload_n pf_293_232 rfl ?_
          refine rr_ldc2_w pf_293_233 po_293 pl_9_413 ?_
          obtain ⟨M89, kq90, hcM89⟩ := ct_RT_isWord (xs := xs) (L := L) (d := d) (u := (294)) (E := E) (s := zd) (b := zd.i) (by omega) hW q77.1 q77.2.1 hsM76 (by unfold rl; omega)
          obtain rfl := qk_nil kq90
          refine rr_cV1 pf_293_236 po_293 pc_9_334 (ws_228 hW) po_226 (by decide) rfl hcM89 ?_
          refine rr_ifb_eq 251 pf_293_239 (by decide) (fun c92 => ?_) (fun c92 => ?_)
          · have hl2 : zd = lw2 E zd := by unfold lw2; rw [if_neg (by omega)]
            obtain ⟨z2, hz2⟩ : ∃ z, z = lw2 E zd := ⟨_, rfl⟩
            have hsl2 : RT M76 E z2.i z2 := by rw [hz2, ← hl2]; exact hsM76
            refine rr_aload_n pf_293_251 rfl ?_
            refine rr_getR pf_293_252 po_293 pg_9_165 rfl (ws_228 hW) (by decide) (wr_228_54 q77.1) ?_
            refine rr_iload_n pf_293_255 rfl ?_
            refine rr_bipush pf_293_256 (by decide) ?_
            refine rr_iadd pf_293_258 ?_
            refine rr_aload_n pf_293_259 rfl ?_
            refine vr_getI q77 pf_293_260 po_293 pg_9_313 rfl (ws_228 hW) (by decide) (fun x93 hx93 rx93 => ?_)
            rw [hsl2.h23] at hx93
            refine vr_iast (j := (8 * nl + 6)) hW q77 pf_293_263 (ws_262 hW) (by omega) (by omega) (by decide) rx93 (by decide) (fun M94 eM94 q95 => ?_)
            have rq96 := fz_ne rq78 eM94 (by decide)
            have hsM94 := RT_u hsl2 eM94 (by decide) (by decide)
            have cc97 : M94 262 = fup (fup cd ((8 * nl + 5)) x75) ((8 * nl + 6)) x93 := by rw [up_fup eM94, cc79]
            have hk98 : M94 228 21 = ((nl : Nat) : Int) + 1 := by rw [eM94, ask_ne (by decide)]; exact hk80
            refine rr_vret pf_293_264 pt_293 ⟨rfl, M94, rfl, q95, (by rw [if_neg hcond]; have hI : its_4 = kAt lw (rK E s) (rW E s) 5 := hJ; rw [← hI]; unfold oS4; rw [← hza, ← hzb, ← hzd, ← hz2]; exact hsM94), (by rw [if_neg hcond]; have z := hk98; omega), (by rw [if_neg hcond]; have hI : its_4 = kAt lw (rK E s) (rW E s) 5 := hJ; rw [← hI]; unfold oCs oS4 oC6; rw [← hza, ← hzb, ← hzd, ← hz2, ← hca, ← hcb, ← hcd, cc97, hx75, hx93]), (rq96)⟩
          · refine rr_aload_n pf_293_242 rfl ?_
            obtain ⟨M99, ⟨kq100, pS_M99, pf_M99⟩, hcM99⟩ := ct_RT_next (xs := xs) (L := L) (d := d) (E := E) (s := zd) (b := zd.i) (by omega) hW q77.1 q77.2.1 hsM76
            have q100 := qk_trm q77 kq100 (by decide)
            have rq102 := fz_tr rq78 pf_M99 (by decide)
            refine rr_cV0 pf_293_243 po_293 pc_9_280 (ws_228 hW) po_222 (by decide) rfl hcM99 ?_
            have cc103 : M99 262 = (fup cd ((8 * nl + 5)) x75) := by rw [kq100.2.2 262 (by decide), cc79]
            have hk104 : M99 228 21 = ((nl : Nat) : Int) + 1 := (pf_M99 21 (by decide)).trans hk80
            have hsn := RT_nb hsM76.hi hsM76.hnb pS_M99
            
            refine rr_aload_n pf_293_246 rfl ?_
            refine rr_iconst pf_293_247 ?_
            obtain ⟨M105, ⟨kq106, pS_M105, pf_M105⟩, hcM105⟩ := ct_RT_readExpression (xs := xs) (L := L) (d := d) (u := 1) (E := E) (s := (nxS E zd)) (by omega) hW q100.1 q100.2.1 hsn (by omega)
            have q106 := qk_trm q100 kq106 (by decide)
            have rq108 := fz_tr rq102 pf_M105 (by decide)
            refine rr_cV1 pf_293_248 po_293 pc_9_410 (ws_228 hW) po_228 (by decide) rfl hcM105 ?_
            have cc109 : M105 262 = ((fup cd ((8 * nl + 5)) x75)) := by rw [kq106.2.2 262 (by decide), cc103]
            have hk110 : M105 228 21 = ((nl : Nat) : Int) + 1 := (pf_M105 21 (by decide)).trans hk104
            
            have hl2 : (rExp E 1 (nxS E zd)) = lw2 E zd := by unfold lw2; rw [if_pos (by omega)]
            obtain ⟨z2, hz2⟩ : ∃ z, z = lw2 E zd := ⟨_, rfl⟩
            have hsl2 : RT M105 E z2.i z2 := by rw [hz2, ← hl2]; exact pS_M105
            refine rr_aload_n pf_293_251 rfl ?_
            refine rr_getR pf_293_252 po_293 pg_9_165 rfl (ws_228 hW) (by decide) (wr_228_54 q106.1) ?_
            refine rr_iload_n pf_293_255 rfl ?_
            refine rr_bipush pf_293_256 (by decide) ?_
            refine rr_iadd pf_293_258 ?_
            refine rr_aload_n pf_293_259 rfl ?_
            refine vr_getI q106 pf_293_260 po_293 pg_9_313 rfl (ws_228 hW) (by decide) (fun x111 hx111 rx111 => ?_)
            rw [hsl2.h23] at hx111
            refine vr_iast (j := (8 * nl + 6)) hW q106 pf_293_263 (ws_262 hW) (by omega) (by omega) (by decide) rx111 (by decide) (fun M112 eM112 q113 => ?_)
            have rq114 := fz_ne rq108 eM112 (by decide)
            have hsM112 := RT_u hsl2 eM112 (by decide) (by decide)
            have cc115 : M112 262 = fup (((fup cd ((8 * nl + 5)) x75))) ((8 * nl + 6)) x111 := by rw [up_fup eM112, cc109]
            have hk116 : M112 228 21 = ((nl : Nat) : Int) + 1 := by rw [eM112, ask_ne (by decide)]; exact hk110
            refine rr_vret pf_293_264 pt_293 ⟨rfl, M112, rfl, q113, (by rw [if_neg hcond]; have hI : its_4 = kAt lw (rK E s) (rW E s) 5 := hJ; rw [← hI]; unfold oS4; rw [← hza, ← hzb, ← hzd, ← hz2]; exact hsM112), (by rw [if_neg hcond]; have z := hk116; omega), (by rw [if_neg hcond]; have hI : its_4 = kAt lw (rK E s) (rW E s) 5 := hJ; rw [← hI]; unfold oCs oS4 oC6; rw [← hza, ← hzb, ← hzd, ← hz2, ← hca, ← hcb, ← hcd, cc115, hx75, hx111]), (rq114)⟩
      · exfalso; omega

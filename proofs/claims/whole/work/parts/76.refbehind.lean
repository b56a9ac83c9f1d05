/-! the reference's reader: what stands behind a part -/
def innL : rd_P → Int
  | [] => -1
  | e :: r => if 31 ≤ e.1 then e.1 else innL r
def cmpL : rd_P → Bool
  | [] => false
  | e :: r => if 20 ≤ e.1 ∧ e.1 ≤ 24 then cmpL r else decide (25 ≤ e.1 ∧ e.1 ≤ 27)
theorem innF_L {M : Nat → Nat → Int} : ∀ {pl : rd_P}, plR M pl → innF (M 241) pl.length = innL pl := by
  intro pl
  induction pl with
  | nil => intro _; rfl
  | cons e r ih =>
    intro h
    rw [List.length_cons, innF, (plR_top h).1, innL, ih (plR_pop h)]
theorem cmpF_L {M : Nat → Nat → Int} : ∀ {pl : rd_P}, plR M pl → cmpF (M 241) pl.length = cmpL pl := by
  intro pl
  induction pl with
  | nil => intro _; rfl
  | cons e r ih =>
    intro h
    rw [List.length_cons, cmpF, (plR_top h).1, cmpL, ih (plR_pop h)]
theorem stl_inn {le : Int} (hl : 1 ≤ le) : ∀ (pl : rd_P) (nc : Nat) (o a : Nat → Int), innL (stl le pl nc o a).1 = innL pl := by
  intro pl
  induction pl with
  | nil => intro nc o a; rfl
  | cons e r ih =>
    intro nc o a
    rw [stl]
    by_cases h : le ≤ bnd_ e.1
    · have h31 : ¬ 31 ≤ e.1 := by intro z; unfold bnd_ at h; rw [if_pos z] at h; omega
      rw [if_pos h, show innL (e :: r) = innL r by rw [innL, if_neg h31]]
      split
      · exact ih _ _ _
      · exact ih _ _ _
    · rw [if_neg h]
theorem stS_ne {le : Int} (hl : 1 ≤ le) {s : rdS} (h : innL s.pl ≠ -1) : (stS le s).pl ≠ [] := by
  intro z
  have e := stl_inn hl s.pl s.nc s.o s.a
  rw [show (stl le s.pl s.nc s.o s.a).1 = [] from z] at e
  exact h (e.symm.trans rfl)
section RSE
variable {xs : Nat → Int} {L d : Nat} {sh : List (Nat × Nat)} {M0 : Nat → Nat → Int}
theorem ct_RS_inner (hd : 1 ≤ d) (hW : px_W0 <+: sh) (hF : px_Fx M0) (hG : px_RG sh M0) {E : rdE} {b : Nat} {s : rdS} (hs : RS M0 E b s) : ∃ v M, (px_qk sh [] M0 M ∧ v = innL s.pl ∧ rg v) ∧ px_Cl xs L d 242 [.ref 228] (sh, M0) (some (.int (iI v))) (sh, M) := by
  have h1 := hs.hnb
  have h2 := hs.hb
  obtain ⟨v, M, ⟨k, pv, pr⟩, hc⟩ := ct_R_inner (xs := xs) (L := L) hd hW hF hG hs.h29 (by omega)
  rw [innF_L hs.hpl] at pv
  exact ⟨v, M, ⟨k, pv, pr⟩, hc⟩
theorem ct_RS_isCompared (hd : 2 ≤ d) (hW : px_W0 <+: sh) (hF : px_Fx M0) (hG : px_RG sh M0) {E : rdE} {b : Nat} {s : rdS} (hs : RS M0 E b s) : ∃ M, (px_qk sh [] M0 M) ∧ px_Cl xs L d 243 [.ref 228] (sh, M0) (some (.int (iI (bI (cmpL s.pl = true))))) (sh, M) := by
  have h1 := hs.hnb
  have h2 := hs.hb
  obtain ⟨M, k, hc⟩ := ct_R_isCompared (xs := xs) (L := L) hd hW hF hG hs.h29 (by omega)
  rw [bI_c (show cmpF (M0 241) s.pl.length = true ↔ cmpL s.pl = true by rw [cmpF_L hs.hpl])] at hc
  exact ⟨M, k, hc⟩
end RSE
def rPlain (E : rdE) (s : rdS) : rdS := if rK E s = 1 ∧ rW E s = 14836 then nxS E (psh 28 0 s) else if rK E s = 3 ∧ rW E s = 40 then rOpen E 31 s else rPart E s
def rPlainV (E : rdE) (s : rdS) : Int := if rK E s = 1 ∧ rW E s = 14836 then 0 else if rK E s = 3 ∧ rW E s = 40 then 0 else rPartV E s
def rOp (E : rdE) (s : rdS) : Int := if rK E s = 3 ∧ rW E s = 43 then 20 else if rK E s = 3 ∧ rW E s = 45 then 21 else if rK E s = 3 ∧ rW E s = 42 then 22 else if rK E s = 3 ∧ rW E s = 47 then 23 else if rK E s = 3 ∧ rW E s = 37 then 24 else -1
def rCm (E : rdE) (s : rdS) : Int := if rK E s = 3 ∧ rW E s = 60 then 25 else if rK E s = 3 ∧ rW E s = 62 then 26 else 27
def rSum (E : rdE) (u : Int) (s : rdS) : rdS := if rOp E s ≠ -1 then nxS E (psh (rOp E s) 0 (stS (bnd_ (rOp E s)) s)) else if innL s.pl = 32 then (if rK E s = 3 ∧ rW E s = 93 then opn (-1) (popS (stS 5 (nxS E s))) else fl E s) else if innL s.pl = -1 ∧ u = 0 then s else if cmpL s.pl = true then s else if rCm E s ≠ 27 ∨ (rK E s = 3 ∧ rW E s = 61) then psh (rCm E s) 0 (stS 5 (nxS E s)) else fl E s
def rSumV (E : rdE) (u : Int) (s : rdS) : Int := if rOp E s ≠ -1 then 1 else if innL s.pl = 32 then 3 else if innL s.pl = -1 ∧ u = 0 then 4 else if cmpL s.pl = true then 2 else 1
def rTest (E : rdE) (s : rdS) : rdS := if rK E s = 1 ∧ rW E s = 1476 then nxS E (emt 29 0 (psh 29 (((stS 2 s).nc : Nat) : Int) (stS 2 s))) else if rK E s = 1 ∧ rW E s = 498 then nxS E (emt 30 0 (psh 30 (((stS 1 s).nc : Nat) : Int) (stS 1 s))) else if innL s.pl = -1 then s else if rK E s = 3 ∧ rW E s = 41 then opn (-1) (popS (stS 1 (nxS E s))) else fl E s
def rTestV (E : rdE) (s : rdS) : Int := if rK E s = 1 ∧ rW E s = 1476 then 0 else if rK E s = 1 ∧ rW E s = 498 then 0 else if innL s.pl = -1 then 4 else 2
theorem ct_R_readPlain {xs : Nat → Int} {L d : Nat} {sh : List (Nat × Nat)} {M0 : Nat → Nat → Int} (hd : 6 ≤ d) (hW : px_W0 <+: sh) (hF : px_Fx M0) (hG : px_RG sh M0)  {E : rdE} {s : rdS} (hs : RS M0 E s.i s) (hf : s.flt = 0)  : ∃ v M, (px_qk sh [228, 239, 240, 241, 242] M0 M ∧ (v = rPlainV E s) ∧ (RS M E (rPlain E s).i (rPlain E s)) ∧ (fz [14, 15, 16, 17, 18, 19, 23, 26, 29, 30] M0 M)) ∧ px_Cl xs L d 229 [.ref 228] (sh, M0) (some (.int (iI v))) (sh, M) := by
  obtain ⟨d, rfl⟩ : ∃ e, d = e + 1 := ⟨d - 1, by omega⟩
  have q0 : px_qk sh [228, 239, 240, 241, 242] M0 M0 := ⟨hF, hG, eo_rf⟩
  have hop := hs.hop
  have hi := hs.hi
  have htn := hs.htn
  have hE2 := (tkE_b (tb := E.tb) hs.hi).2
  have hlv := hs.hlv
  have hnb := hs.hnb
  refine vc_i (Nat.le_of_ble_eq_true rfl) ?_
  show px_R xs L d 229 (0, [.ref 228], [], (sh, M0)) (fun r h' => ∃ v M', r = some (.int (iI v)) ∧ h' = (sh, M') ∧ px_qk sh [228, 239, 240, 241, 242] M0 M' ∧ v = rPlainV E s ∧ RS M' E (rPlain E s).i (rPlain E s) ∧ fz [14, 15, 16, 17, 18, 19, 23, 26, 29, 30] M0 M')
  refine rr_aload_n pf_229_0 rfl ?_
  refine rr_ldc2_w pf_229_1 po_229 pl_9_375 ?_
  obtain ⟨M1, kq2, hcM1⟩ := ct_RS_isWord (xs := xs) (L := L) (d := d) (u := (14836)) (E := E) (s := s) (b := s.i) (by omega) hW q0.1 q0.2.1 hs (by unfold rl; omega)
  obtain rfl := qk_nil kq2
  refine rr_cV1 pf_229_4 po_229 pc_9_334 (ws_228 hW) po_226 (by decide) rfl hcM1 ?_
  refine rr_ifb_eq 23 pf_229_7 (by decide) (fun c4 => ?_) (fun c4 => ?_)
  · refine rr_aload_n pf_229_23 rfl ?_
    refine rr_bipush pf_229_24 (by decide) ?_
    obtain ⟨M5, kq6, hcM5⟩ := ct_RS_isSign (xs := xs) (L := L) (d := d) (u := 40) (E := E) (s := s) (b := s.i) (by omega) hW q0.1 q0.2.1 hs (by unfold rg; omega)
    obtain rfl := qk_nil kq6
    refine rr_cV1 pf_229_26 po_229 pc_9_347 (ws_228 hW) po_231 (by decide) rfl hcM5 ?_
    refine rr_ifb_eq 40 pf_229_29 (by decide) (fun c8 => ?_) (fun c8 => ?_)
    · refine rr_aload_n pf_229_40 rfl ?_
      obtain ⟨r11, M9, ⟨kq10, pv_M9, pS_M9, pf_M9⟩, hcM9⟩ := ct_R_readPart (xs := xs) (L := L) (d := d) (E := E) (s := s) (by omega) hW q0.1 q0.2.1 hs hf
      have q10 := qk_trm q0 kq10 (by decide)
      have rq12 := fz_tr (fz_rf [14, 15, 16, 17, 18, 19, 23, 26, 29, 30] M0) pf_M9 (by decide)
      refine rr_cV0 pf_229_41 po_229 pc_9_377 (ws_228 hW) po_233 (by decide) rfl hcM9 ?_
      refine rr_iret pf_229_44 pt_229 ⟨_, M9, rfl, rfl, q10, (by unfold rPlainV; rw [if_neg (by omega), if_neg (by omega)]; exact pv_M9), (by unfold rPlain; rw [if_neg (by omega), if_neg (by omega)]; exact pS_M9), (rq12)⟩
    · refine rr_aload_n pf_229_32 rfl ?_
      refine rr_bipush pf_229_33 (by decide) ?_
      obtain ⟨M13, ⟨kq14, pS_M13, pf_M13⟩, hcM13⟩ := ct_R_openBracket (xs := xs) (L := L) (d := d) (u := 31) (E := E) (s := s) (by omega) hW q0.1 q0.2.1 hs hf (by omega) (by omega)
      have q14 := qk_trm q0 kq14 (by decide)
      have rq16 := fz_tr (fz_rf [14, 15, 16, 17, 18, 19, 23, 26, 29, 30] M0) pf_M13 (by decide)
      refine rr_cV1 pf_229_35 po_229 pc_9_350 (ws_228 hW) po_232 (by decide) rfl hcM13 ?_
      refine rr_iconst pf_229_38 ?_
      refine rr_iret pf_229_39 pt_229 ⟨_, M13, rfl, rfl, q14, (by unfold rPlainV; rw [if_neg (by omega), if_pos (by omega)]), (by unfold rPlain; rw [if_neg (by omega), if_pos (by omega)]; exact pS_M13), (rq16)⟩
  · have hE1 := tkE_1 (tb := E.tb) hs.hi (show tkK E.tn E.tb s.i ≠ 0 from (by omega : rK E s ≠ 0))
    refine rr_aload_n pf_229_10 rfl ?_
    refine rr_bipush pf_229_11 (by decide) ?_
    refine rr_iconst pf_229_13 ?_
    obtain ⟨M17, ⟨kq18, pS_M17, pf_M17⟩, hcM17⟩ := ct_RS_push (xs := xs) (L := L) (d := d) (a := 28) (b_ := 0) (E := E) (s := s) (b := s.i) (by omega) hW q0.1 q0.2.1 hs (by omega) (by omega) (by omega)
    have q18 := qk_trm q0 kq18 (by decide)
    have rq20 := fz_tr (fz_rf [14, 15, 16, 17, 18, 19, 23, 26, 29, 30] M0) pf_M17 (by decide)
    refine rr_cV2 pf_229_14 po_229 pc_9_341 (ws_228 hW) po_230 (by decide) rfl hcM17 ?_
    refine rr_aload_n pf_229_17 rfl ?_
    obtain ⟨M21, ⟨kq22, pS_M21, pf_M21⟩, hcM21⟩ := ct_RS_next (xs := xs) (L := L) (d := d) (E := E) (s := (psh 28 0 s)) (b := s.i + 1) (by omega) hW q18.1 q18.2.1 pS_M17
    have q22 := qk_trm q18 kq22 (by decide)
    have rq24 := fz_tr rq20 pf_M21 (by decide)
    refine rr_cV0 pf_229_18 po_229 pc_9_280 (ws_228 hW) po_222 (by decide) rfl hcM21 ?_
    refine rr_iconst pf_229_21 ?_
    refine rr_iret pf_229_22 pt_229 ⟨_, M21, rfl, rfl, q22, (by unfold rPlainV; rw [if_pos (by omega)]), (by unfold rPlain; rw [if_pos (by omega)]; exact RS_b pS_M21 (Nat.le_trans pS_M21.hnb (by show _ ≤ tkE E.tn E.tb s.i; omega)) (by show tkE E.tn E.tb s.i ≤ 400; omega)), (rq24)⟩
theorem ct_R_behindSum {xs : Nat → Int} {L d : Nat} {sh : List (Nat × Nat)} {M0 : Nat → Nat → Int} (hd : 4 ≤ d) (hW : px_W0 <+: sh) (hF : px_Fx M0) (hG : px_RG sh M0)  {E : rdE} {s : rdS} (hs : RS M0 E s.i s) (hf : s.flt = 0) {u : Int} (hu : u = 0 ∨ u = 1) : ∃ v M, (px_qk sh [228, 239, 240, 241, 242] M0 M ∧ (v = rSumV E u s) ∧ (RS M E (rSum E u s).i (rSum E u s)) ∧ (fz [14, 15, 16, 17, 18, 19, 23, 26, 29, 30] M0 M)) ∧ px_Cl xs L d 239 [.ref 228, .int (iI (u))] (sh, M0) (some (.int (iI v))) (sh, M) := by
  obtain ⟨d, rfl⟩ : ∃ e, d = e + 1 := ⟨d - 1, by omega⟩
  have q0 : px_qk sh [228, 239, 240, 241, 242] M0 M0 := ⟨hF, hG, eo_rf⟩
  have hop := hs.hop
  have hi := hs.hi
  have htn := hs.htn
  have hE2 := (tkE_b (tb := E.tb) hs.hi).2
  have hlv := hs.hlv
  have hnb := hs.hnb
  refine vc_i (Nat.le_of_ble_eq_true rfl) ?_
  show px_R xs L d 239 (0, [.ref 228, .int (iI (u)), px_jk, px_jk], [], (sh, M0)) (fun r h' => ∃ v M', r = some (.int (iI v)) ∧ h' = (sh, M') ∧ px_qk sh [228, 239, 240, 241, 242] M0 M' ∧ v = rSumV E u s ∧ RS M' E (rSum E u s).i (rSum E u s) ∧ fz [14, 15, 16, 17, 18, 19, 23, 26, 29, 30] M0 M')
  refine rr_aload_n pf_239_0 rfl ?_
  refine rr_bipush pf_239_1 (by decide) ?_
  obtain ⟨M1, kq2, hcM1⟩ := ct_RS_isSign (xs := xs) (L := L) (d := d) (u := 43) (E := E) (s := s) (b := s.i) (by omega) hW q0.1 q0.2.1 hs (by unfold rg; omega)
  obtain rfl := qk_nil kq2
  refine rr_cV1 pf_239_3 po_239 pc_9_347 (ws_228 hW) po_231 (by decide) rfl hcM1 ?_
  refine rr_ifb_eq 14 pf_239_6 (by decide) (fun c4 => ?_) (fun c4 => ?_)
  · refine rr_aload_n pf_239_14 rfl ?_
    refine rr_bipush pf_239_15 (by decide) ?_
    obtain ⟨M5, kq6, hcM5⟩ := ct_RS_isSign (xs := xs) (L := L) (d := d) (u := 45) (E := E) (s := s) (b := s.i) (by omega) hW q0.1 q0.2.1 hs (by unfold rg; omega)
    obtain rfl := qk_nil kq6
    refine rr_cV1 pf_239_17 po_239 pc_9_347 (ws_228 hW) po_231 (by decide) rfl hcM5 ?_
    refine rr_ifb_eq 28 pf_239_20 (by decide) (fun c8 => ?_) (fun c8 => ?_)
    · refine rr_aload_n pf_239_28 rfl ?_
      refine rr_bipush pf_239_29 (by decide) ?_
      obtain ⟨M9, kq10, hcM9⟩ := ct_RS_isSign (xs := xs) (L := L) (d := d) (u := 42) (E := E) (s := s) (b := s.i) (by omega) hW q0.1 q0.2.1 hs (by unfold rg; omega)
      obtain rfl := qk_nil kq10
      refine rr_cV1 pf_239_31 po_239 pc_9_347 (ws_228 hW) po_231 (by decide) rfl hcM9 ?_
      refine rr_ifb_eq 42 pf_239_34 (by decide) (fun c12 => ?_) (fun c12 => ?_)
      · refine rr_aload_n pf_239_42 rfl ?_
        refine rr_bipush pf_239_43 (by decide) ?_
        obtain ⟨M13, kq14, hcM13⟩ := ct_RS_isSign (xs := xs) (L := L) (d := d) (u := 47) (E := E) (s := s) (b := s.i) (by omega) hW q0.1 q0.2.1 hs (by unfold rg; omega)
        obtain rfl := qk_nil kq14
        refine rr_cV1 pf_239_45 po_239 pc_9_347 (ws_228 hW) po_231 (by decide) rfl hcM13 ?_
        refine rr_ifb_eq 56 pf_239_48 (by decide) (fun c16 => ?_) (fun c16 => ?_)
        · refine rr_aload_n pf_239_56 rfl ?_
          refine rr_bipush pf_239_57 (by decide) ?_
          obtain ⟨M17, kq18, hcM17⟩ := ct_RS_isSign (xs := xs) (L := L) (d := d) (u := 37) (E := E) (s := s) (b := s.i) (by omega) hW q0.1 q0.2.1 hs (by unfold rg; omega)
          obtain rfl := qk_nil kq18
          refine rr_cV1 pf_239_59 po_239 pc_9_347 (ws_228 hW) po_231 (by decide) rfl hcM17 ?_
          refine rr_ifb_eq 70 pf_239_62 (by decide) (fun c20 => ?_) (fun c20 => ?_)
          · refine rr_iconst pf_239_70 ?_
            refine rr_istore_n pf_239_71 (fun y => [.ref 228, .int (iI (u)), .int (iI (y)), px_jk]) (Nat.le_of_ble_eq_true rfl) (fun _ => rfl) (fun y21 hy21 => ?_)
            have hO : rOp E s = y21 := by unfold rOp; rw [if_neg (by omega), if_neg (by omega), if_neg (by omega), if_neg (by omega), if_neg (by omega)]; omega
            refine rr_iload_n pf_239_72 rfl ?_
            refine rr_iconst pf_239_73 ?_
            refine rr_icmp_eq 97 pf_239_74 (by decide) (by unfold rg; omega) (by unfold rg; omega) (fun c22 => ?_) (fun c22 => ?_)
            · refine rr_aload_n pf_239_97 rfl ?_
              obtain ⟨r25, M23, ⟨kq24, pv_M23, pr_M23⟩, hcM23⟩ := ct_RS_inner (xs := xs) (L := L) (d := d) (E := E) (s := s) (b := s.i) (by omega) hW q0.1 q0.2.1 hs
              obtain rfl := qk_nil kq24
              refine rr_cV0 pf_239_98 po_239 pc_9_383 (ws_228 hW) po_242 (by decide) rfl hcM23 ?_
              unfold rg at pr_M23
              refine rr_istore_n pf_239_101 (fun y => [.ref 228, .int (iI (u)), .int (iI (y21)), .int (iI (y))]) (Nat.le_of_ble_eq_true rfl) (fun _ => rfl) (fun y26 hy26 => ?_)
              refine rr_iload_n pf_239_102 rfl ?_
              refine rr_bipush pf_239_103 (by decide) ?_
              refine rr_icmp_ne 152 pf_239_105 (by decide) (by unfold rg; omega) (by unfold rg; omega) (fun c27 => ?_) (fun c27 => ?_)
              · refine rr_iload_n pf_239_152 rfl ?_
                refine rr_iconst pf_239_153 ?_
                refine rr_icmp_ne 163 pf_239_154 (by decide) (by unfold rg; omega) (by unfold rg; omega) (fun c28 => ?_) (fun c28 => ?_)
                · refine rr_aload_n pf_239_163 rfl ?_
                  obtain ⟨M29, kq30, hcM29⟩ := ct_RS_isCompared (xs := xs) (L := L) (d := d) (E := E) (s := s) (b := s.i) (by omega) hW q0.1 q0.2.1 hs
                  obtain rfl := qk_nil kq30
                  refine rr_cV0 pf_239_164 po_239 pc_9_386 (ws_228 hW) po_243 (by decide) rfl hcM29 ?_
                  refine rr_ifb_eq 172 pf_239_167 (by decide) (fun c32 => ?_) (fun c32 => ?_)
                  · have hcm := c32
                    refine rr_aload_n pf_239_172 rfl ?_
                    refine rr_bipush pf_239_173 (by decide) ?_
                    obtain ⟨M33, kq34, hcM33⟩ := ct_RS_isSign (xs := xs) (L := L) (d := d) (u := 60) (E := E) (s := s) (b := s.i) (by omega) hW q0.1 q0.2.1 hs (by unfold rg; omega)
                    obtain rfl := qk_nil kq34
                    refine rr_cV1 pf_239_175 po_239 pc_9_347 (ws_228 hW) po_231 (by decide) rfl hcM33 ?_
                    refine rr_ifb_eq 186 pf_239_178 (by decide) (fun c36 => ?_) (fun c36 => ?_)
                    · refine rr_aload_n pf_239_186 rfl ?_
                      refine rr_bipush pf_239_187 (by decide) ?_
                      obtain ⟨M37, kq38, hcM37⟩ := ct_RS_isSign (xs := xs) (L := L) (d := d) (u := 62) (E := E) (s := s) (b := s.i) (by omega) hW q0.1 q0.2.1 hs (by unfold rg; omega)
                      obtain rfl := qk_nil kq38
                      refine rr_cV1 pf_239_189 po_239 pc_9_347 (ws_228 hW) po_231 (by decide) rfl hcM37 ?_
                      refine rr_ifb_eq 200 pf_239_192 (by decide) (fun c40 => ?_) (fun c40 => ?_)
                      · refine rr_bipush pf_239_200 (by decide) ?_
                        refine rr_istore_n pf_239_202 (fun y => [.ref 228, .int (iI (u)), .int (iI (y)), .int (iI (y26))]) (Nat.le_of_ble_eq_true rfl) (fun _ => rfl) (fun y41 hy41 => ?_)
                        have hC : rCm E s = y41 := by unfold rCm; rw [if_neg (by omega), if_neg (by omega)]; omega
                        refine rr_aload_n pf_239_203 rfl ?_
                        refine rr_iload_n pf_239_204 rfl ?_
                        refine rr_bipush pf_239_205 (by decide) ?_
                        refine rr_icmp_ne 219 pf_239_207 (by decide) (by unfold rg; omega) (by unfold rg; omega) (fun c42 => ?_) (fun c42 => ?_)
                        · exfalso; omega
                        · refine rr_aload_n pf_239_210 rfl ?_
                          refine rr_bipush pf_239_211 (by decide) ?_
                          obtain ⟨M43, kq44, hcM43⟩ := ct_RS_isSign (xs := xs) (L := L) (d := d) (u := 61) (E := E) (s := s) (b := s.i) (by omega) hW q0.1 q0.2.1 hs (by unfold rg; omega)
                          obtain rfl := qk_nil kq44
                          refine rr_cV1 pf_239_213 po_239 pc_9_347 (ws_228 hW) po_231 (by decide) rfl hcM43 ?_
                          refine rr_ifb_eq 223 pf_239_216 (by decide) (fun c46 => ?_) (fun c46 => ?_)
                          · refine rr_iconst pf_239_223 ?_
                            obtain ⟨M47, ⟨kq48, pS_M47, pf_M47⟩, hcM47⟩ := ct_RS_must (xs := xs) (L := L) (d := d) (u := 0) (E := E) (s := s) (b := s.i) (by omega) hW q0.1 q0.2.1 hs hf (by omega)
                            have q48 := qk_trm q0 kq48 (by decide)
                            have rq50 := fz_tr (fz_rf [14, 15, 16, 17, 18, 19, 23, 26, 29, 30] M0) pf_M47 (by decide)
                            refine rr_cV1 pf_239_224 po_239 pc_9_309 (ws_228 hW) po_227 (by decide) rfl hcM47 ?_
                            rw [mst0] at pS_M47
                            refine rr_aload_n pf_239_227 rfl ?_
                            refine vr_getZ q48 pf_239_228 po_239 pg_9_276 rfl (ws_228 hW) (by decide) (fun x51 hx51 rx51 => ?_)
                            rw [pS_M47.h19] at hx51
                            change x51 = 1 at hx51
                            refine rr_if_ne 245 pf_239_231 (by decide) rx51 (fun c52 => ?_) (fun c52 => ?_)
                            · refine rr_iconst pf_239_245 ?_
                              refine rr_iret pf_239_246 pt_239 ⟨_, M47, rfl, rfl, q48, (by unfold rSumV; rw [if_neg (by omega), if_neg (by omega), if_neg (by omega), if_neg hcm]), (by unfold rSum; rw [if_neg (by omega)]; rw [if_neg (by omega)]; rw [if_neg (by omega)]; rw [if_neg hcm, hC]; rw [if_neg (by omega)]; exact pS_M47), (rq50)⟩
                            · exfalso; omega
                          · refine rr_iconst pf_239_219 ?_
                            refine rr_goto 224 pf_239_220 (by decide) ?_
                            obtain ⟨M53, ⟨kq54, pS_M53, pf_M53⟩, hcM53⟩ := ct_RS_must (xs := xs) (L := L) (d := d) (u := 1) (E := E) (s := s) (b := s.i) (by omega) hW q0.1 q0.2.1 hs hf (by omega)
                            have q54 := qk_trm q0 kq54 (by decide)
                            have rq56 := fz_tr (fz_rf [14, 15, 16, 17, 18, 19, 23, 26, 29, 30] M0) pf_M53 (by decide)
                            refine rr_cV1 pf_239_224 po_239 pc_9_309 (ws_228 hW) po_227 (by decide) rfl hcM53 ?_
                            rw [mst1] at pS_M53
                            have hE1 := tkE_1 (tb := E.tb) hs.hi (show tkK E.tn E.tb s.i ≠ 0 from (by omega : rK E s ≠ 0))
                            refine rr_aload_n pf_239_227 rfl ?_
                            refine vr_getZ q54 pf_239_228 po_239 pg_9_276 rfl (ws_228 hW) (by decide) (fun x57 hx57 rx57 => ?_)
                            rw [pS_M53.h19] at hx57
                            change x57 = s.flt at hx57
                            rw [hf] at hx57
                            refine rr_if_ne 245 pf_239_231 (by decide) rx57 (fun c58 => ?_) (fun c58 => ?_)
                            · exfalso; omega
                            · refine rr_aload_n pf_239_234 rfl ?_
                              refine rr_iconst pf_239_235 ?_
                              obtain ⟨M59, ⟨kq60, pS_M59, pf_M59⟩, hcM59⟩ := ct_RS_settle (xs := xs) (L := L) (d := d) (le := 5) (E := E) (s := (nxS E s)) (b := s.i) (by omega) hW q54.1 q54.2.1 pS_M53 (by unfold rg; omega)
                              have q60 := qk_trm q54 kq60 (by decide)
                              have rq62 := fz_tr rq56 pf_M59 (by decide)
                              refine rr_cV1 pf_239_236 po_239 pc_9_380 (ws_228 hW) po_241 (by decide) rfl hcM59 ?_
                              refine rr_aload_n pf_239_239 rfl ?_
                              refine rr_iload_n pf_239_240 rfl ?_
                              refine rr_iconst pf_239_241 ?_
                              obtain ⟨M63, ⟨kq64, pS_M63, pf_M63⟩, hcM63⟩ := ct_RS_push (xs := xs) (L := L) (d := d) (a := y41) (b_ := 0) (E := E) (s := (stS 5 (nxS E s))) (b := s.i) (by omega) hW q60.1 q60.2.1 pS_M59 (by omega) (by omega) (by omega)
                              have q64 := qk_trm q60 kq64 (by decide)
                              have rq66 := fz_tr rq62 pf_M63 (by decide)
                              refine rr_cV2 pf_239_242 po_239 pc_9_341 (ws_228 hW) po_230 (by decide) rfl hcM63 ?_
                              refine rr_iconst pf_239_245 ?_
                              refine rr_iret pf_239_246 pt_239 ⟨_, M63, rfl, rfl, q64, (by unfold rSumV; rw [if_neg (by omega), if_neg (by omega), if_neg (by omega), if_neg hcm]), (by unfold rSum; rw [if_neg (by omega)]; rw [if_neg (by omega)]; rw [if_neg (by omega)]; rw [if_neg hcm, hC]; rw [if_pos (by omega)]; exact RS_b pS_M63 (Nat.le_trans pS_M63.hnb (by show _ ≤ tkE E.tn E.tb s.i; omega)) (by show tkE E.tn E.tb s.i ≤ 400; omega)), (rq66)⟩
                      · refine rr_bipush pf_239_195 (by decide) ?_
                        refine rr_goto 202 pf_239_197 (by decide) ?_
                        refine rr_istore_n pf_239_202 (fun y => [.ref 228, .int (iI (u)), .int (iI (y)), .int (iI (y26))]) (Nat.le_of_ble_eq_true rfl) (fun _ => rfl) (fun y67 hy67 => ?_)
                        have hC : rCm E s = y67 := by unfold rCm; rw [if_neg (by omega), if_pos (by omega)]; omega
                        refine rr_aload_n pf_239_203 rfl ?_
                        refine rr_iload_n pf_239_204 rfl ?_
                        refine rr_bipush pf_239_205 (by decide) ?_
                        refine rr_icmp_ne 219 pf_239_207 (by decide) (by unfold rg; omega) (by unfold rg; omega) (fun c68 => ?_) (fun c68 => ?_)
                        · refine rr_iconst pf_239_219 ?_
                          refine rr_goto 224 pf_239_220 (by decide) ?_
                          obtain ⟨M69, ⟨kq70, pS_M69, pf_M69⟩, hcM69⟩ := ct_RS_must (xs := xs) (L := L) (d := d) (u := 1) (E := E) (s := s) (b := s.i) (by omega) hW q0.1 q0.2.1 hs hf (by omega)
                          have q70 := qk_trm q0 kq70 (by decide)
                          have rq72 := fz_tr (fz_rf [14, 15, 16, 17, 18, 19, 23, 26, 29, 30] M0) pf_M69 (by decide)
                          refine rr_cV1 pf_239_224 po_239 pc_9_309 (ws_228 hW) po_227 (by decide) rfl hcM69 ?_
                          rw [mst1] at pS_M69
                          have hE1 := tkE_1 (tb := E.tb) hs.hi (show tkK E.tn E.tb s.i ≠ 0 from (by omega : rK E s ≠ 0))
                          refine rr_aload_n pf_239_227 rfl ?_
                          refine vr_getZ q70 pf_239_228 po_239 pg_9_276 rfl (ws_228 hW) (by decide) (fun x73 hx73 rx73 => ?_)
                          rw [pS_M69.h19] at hx73
                          change x73 = s.flt at hx73
                          rw [hf] at hx73
                          refine rr_if_ne 245 pf_239_231 (by decide) rx73 (fun c74 => ?_) (fun c74 => ?_)
                          · exfalso; omega
                          · refine rr_aload_n pf_239_234 rfl ?_
                            refine rr_iconst pf_239_235 ?_
                            obtain ⟨M75, ⟨kq76, pS_M75, pf_M75⟩, hcM75⟩ := ct_RS_settle (xs := xs) (L := L) (d := d) (le := 5) (E := E) (s := (nxS E s)) (b := s.i) (by omega) hW q70.1 q70.2.1 pS_M69 (by unfold rg; omega)
                            have q76 := qk_trm q70 kq76 (by decide)
                            have rq78 := fz_tr rq72 pf_M75 (by decide)
                            refine rr_cV1 pf_239_236 po_239 pc_9_380 (ws_228 hW) po_241 (by decide) rfl hcM75 ?_
                            refine rr_aload_n pf_239_239 rfl ?_
                            refine rr_iload_n pf_239_240 rfl ?_
                            refine rr_iconst pf_239_241 ?_
                            obtain ⟨M79, ⟨kq80, pS_M79, pf_M79⟩, hcM79⟩ := ct_RS_push (xs := xs) (L := L) (d := d) (a := y67) (b_ := 0) (E := E) (s := (stS 5 (nxS E s))) (b := s.i) (by omega) hW q76.1 q76.2.1 pS_M75 (by omega) (by omega) (by omega)
                            have q80 := qk_trm q76 kq80 (by decide)
                            have rq82 := fz_tr rq78 pf_M79 (by decide)
                            refine rr_cV2 pf_239_242 po_239 pc_9_341 (ws_228 hW) po_230 (by decide) rfl hcM79 ?_
                            refine rr_iconst pf_239_245 ?_
                            refine rr_iret pf_239_246 pt_239 ⟨_, M79, rfl, rfl, q80, (by unfold rSumV; rw [if_neg (by omega), if_neg (by omega), if_neg (by omega), if_neg hcm]), (by unfold rSum; rw [if_neg (by omega)]; rw [if_neg (by omega)]; rw [if_neg (by omega)]; rw [if_neg hcm, hC]; rw [if_pos (by omega)]; exact RS_b pS_M79 (Nat.le_trans pS_M79.hnb (by show _ ≤ tkE E.tn E.tb s.i; omega)) (by show tkE E.tn E.tb s.i ≤ 400; omega)), (rq82)⟩
                        · exfalso; omega
                    · refine rr_bipush pf_239_181 (by decide) ?_
                      refine rr_goto 202 pf_239_183 (by decide) ?_
                      refine rr_istore_n pf_239_202 (fun y => [.ref 228, .int (iI (u)), .int (iI (y)), .int (iI (y26))]) (Nat.le_of_ble_eq_true rfl) (fun _ => rfl) (fun y83 hy83 => ?_)
                      have hC : rCm E s = y83 := by unfold rCm; rw [if_pos (by omega)]; omega
                      refine rr_aload_n pf_239_203 rfl ?_
                      refine rr_iload_n pf_239_204 rfl ?_
                      refine rr_bipush pf_239_205 (by decide) ?_
                      refine rr_icmp_ne 219 pf_239_207 (by decide) (by unfold rg; omega) (by unfold rg; omega) (fun c84 => ?_) (fun c84 => ?_)
                      · refine rr_iconst pf_239_219 ?_
                        refine rr_goto 224 pf_239_220 (by decide) ?_
                        obtain ⟨M85, ⟨kq86, pS_M85, pf_M85⟩, hcM85⟩ := ct_RS_must (xs := xs) (L := L) (d := d) (u := 1) (E := E) (s := s) (b := s.i) (by omega) hW q0.1 q0.2.1 hs hf (by omega)
                        have q86 := qk_trm q0 kq86 (by decide)
                        have rq88 := fz_tr (fz_rf [14, 15, 16, 17, 18, 19, 23, 26, 29, 30] M0) pf_M85 (by decide)
                        refine rr_cV1 pf_239_224 po_239 pc_9_309 (ws_228 hW) po_227 (by decide) rfl hcM85 ?_
                        rw [mst1] at pS_M85
                        have hE1 := tkE_1 (tb := E.tb) hs.hi (show tkK E.tn E.tb s.i ≠ 0 from (by omega : rK E s ≠ 0))
                        refine rr_aload_n pf_239_227 rfl ?_
                        refine vr_getZ q86 pf_239_228 po_239 pg_9_276 rfl (ws_228 hW) (by decide) (fun x89 hx89 rx89 => ?_)
                        rw [pS_M85.h19] at hx89
                        change x89 = s.flt at hx89
                        rw [hf] at hx89
                        refine rr_if_ne 245 pf_239_231 (by decide) rx89 (fun c90 => ?_) (fun c90 => ?_)
                        · exfalso; omega
                        · refine rr_aload_n pf_239_234 rfl ?_
                          refine rr_iconst pf_239_235 ?_
                          obtain ⟨M91, ⟨kq92, pS_M91, pf_M91⟩, hcM91⟩ := ct_RS_settle (xs := xs) (L := L) (d := d) (le := 5) (E := E) (s := (nxS E s)) (b := s.i) (by omega) hW q86.1 q86.2.1 pS_M85 (by unfold rg; omega)
                          have q92 := qk_trm q86 kq92 (by decide)
                          have rq94 := fz_tr rq88 pf_M91 (by decide)
                          refine rr_cV1 pf_239_236 po_239 pc_9_380 (ws_228 hW) po_241 (by decide) rfl hcM91 ?_
                          refine rr_aload_n pf_239_239 rfl ?_
                          refine rr_iload_n pf_239_240 rfl ?_
                          refine rr_iconst pf_239_241 ?_
                          obtain ⟨M95, ⟨kq96, pS_M95, pf_M95⟩, hcM95⟩ := ct_RS_push (xs := xs) (L := L) (d := d) (a := y83) (b_ := 0) (E := E) (s := (stS 5 (nxS E s))) (b := s.i) (by omega) hW q92.1 q92.2.1 pS_M91 (by omega) (by omega) (by omega)
                          have q96 := qk_trm q92 kq96 (by decide)
                          have rq98 := fz_tr rq94 pf_M95 (by decide)
                          refine rr_cV2 pf_239_242 po_239 pc_9_341 (ws_228 hW) po_230 (by decide) rfl hcM95 ?_
                          refine rr_iconst pf_239_245 ?_
                          refine rr_iret pf_239_246 pt_239 ⟨_, M95, rfl, rfl, q96, (by unfold rSumV; rw [if_neg (by omega), if_neg (by omega), if_neg (by omega), if_neg hcm]), (by unfold rSum; rw [if_neg (by omega)]; rw [if_neg (by omega)]; rw [if_neg (by omega)]; rw [if_neg hcm, hC]; rw [if_pos (by omega)]; exact RS_b pS_M95 (Nat.le_trans pS_M95.hnb (by show _ ≤ tkE E.tn E.tb s.i; omega)) (by show tkE E.tn E.tb s.i ≤ 400; omega)), (rq98)⟩
                      · exfalso; omega
                  · have hcm := c32
                    refine rr_iconst pf_239_170 ?_
                    refine rr_iret pf_239_171 pt_239 ⟨_, M0, rfl, rfl, q0, (by unfold rSumV; rw [if_neg (by omega), if_neg (by omega), if_neg (by omega), if_pos hcm]), (by unfold rSum; rw [if_neg (by omega)]; rw [if_neg (by omega)]; rw [if_neg (by omega)]; rw [if_pos hcm]; exact hs), ((fz_rf [14, 15, 16, 17, 18, 19, 23, 26, 29, 30] M0))⟩
                · refine rr_iload_n pf_239_157 rfl ?_
                  refine rr_if_ne 163 pf_239_158 (by decide) (by unfold rg; omega) (fun c99 => ?_) (fun c99 => ?_)
                  · refine rr_aload_n pf_239_163 rfl ?_
                    obtain ⟨M100, kq101, hcM100⟩ := ct_RS_isCompared (xs := xs) (L := L) (d := d) (E := E) (s := s) (b := s.i) (by omega) hW q0.1 q0.2.1 hs
                    obtain rfl := qk_nil kq101
                    refine rr_cV0 pf_239_164 po_239 pc_9_386 (ws_228 hW) po_243 (by decide) rfl hcM100 ?_
                    refine rr_ifb_eq 172 pf_239_167 (by decide) (fun c103 => ?_) (fun c103 => ?_)
                    · have hcm := c103
                      refine rr_aload_n pf_239_172 rfl ?_
                      refine rr_bipush pf_239_173 (by decide) ?_
                      obtain ⟨M104, kq105, hcM104⟩ := ct_RS_isSign (xs := xs) (L := L) (d := d) (u := 60) (E := E) (s := s) (b := s.i) (by omega) hW q0.1 q0.2.1 hs (by unfold rg; omega)
                      obtain rfl := qk_nil kq105
                      refine rr_cV1 pf_239_175 po_239 pc_9_347 (ws_228 hW) po_231 (by decide) rfl hcM104 ?_
                      refine rr_ifb_eq 186 pf_239_178 (by decide) (fun c107 => ?_) (fun c107 => ?_)
                      · refine rr_aload_n pf_239_186 rfl ?_
                        refine rr_bipush pf_239_187 (by decide) ?_
                        obtain ⟨M108, kq109, hcM108⟩ := ct_RS_isSign (xs := xs) (L := L) (d := d) (u := 62) (E := E) (s := s) (b := s.i) (by omega) hW q0.1 q0.2.1 hs (by unfold rg; omega)
                        obtain rfl := qk_nil kq109
                        refine rr_cV1 pf_239_189 po_239 pc_9_347 (ws_228 hW) po_231 (by decide) rfl hcM108 ?_
                        refine rr_ifb_eq 200 pf_239_192 (by decide) (fun c111 => ?_) (fun c111 => ?_)
                        · refine rr_bipush pf_239_200 (by decide) ?_
                          refine rr_istore_n pf_239_202 (fun y => [.ref 228, .int (iI (u)), .int (iI (y)), .int (iI (y26))]) (Nat.le_of_ble_eq_true rfl) (fun _ => rfl) (fun y112 hy112 => ?_)
                          have hC : rCm E s = y112 := by unfold rCm; rw [if_neg (by omega), if_neg (by omega)]; omega
                          refine rr_aload_n pf_239_203 rfl ?_
                          refine rr_iload_n pf_239_204 rfl ?_
                          refine rr_bipush pf_239_205 (by decide) ?_
                          refine rr_icmp_ne 219 pf_239_207 (by decide) (by unfold rg; omega) (by unfold rg; omega) (fun c113 => ?_) (fun c113 => ?_)
                          · exfalso; omega
                          · refine rr_aload_n pf_239_210 rfl ?_
                            refine rr_bipush pf_239_211 (by decide) ?_
                            obtain ⟨M114, kq115, hcM114⟩ := ct_RS_isSign (xs := xs) (L := L) (d := d) (u := 61) (E := E) (s := s) (b := s.i) (by omega) hW q0.1 q0.2.1 hs (by unfold rg; omega)
                            obtain rfl := qk_nil kq115
                            refine rr_cV1 pf_239_213 po_239 pc_9_347 (ws_228 hW) po_231 (by decide) rfl hcM114 ?_
                            refine rr_ifb_eq 223 pf_239_216 (by decide) (fun c117 => ?_) (fun c117 => ?_)
                            · refine rr_iconst pf_239_223 ?_
                              obtain ⟨M118, ⟨kq119, pS_M118, pf_M118⟩, hcM118⟩ := ct_RS_must (xs := xs) (L := L) (d := d) (u := 0) (E := E) (s := s) (b := s.i) (by omega) hW q0.1 q0.2.1 hs hf (by omega)
                              have q119 := qk_trm q0 kq119 (by decide)
                              have rq121 := fz_tr (fz_rf [14, 15, 16, 17, 18, 19, 23, 26, 29, 30] M0) pf_M118 (by decide)
                              refine rr_cV1 pf_239_224 po_239 pc_9_309 (ws_228 hW) po_227 (by decide) rfl hcM118 ?_
                              rw [mst0] at pS_M118
                              refine rr_aload_n pf_239_227 rfl ?_
                              refine vr_getZ q119 pf_239_228 po_239 pg_9_276 rfl (ws_228 hW) (by decide) (fun x122 hx122 rx122 => ?_)
                              rw [pS_M118.h19] at hx122
                              change x122 = 1 at hx122
                              refine rr_if_ne 245 pf_239_231 (by decide) rx122 (fun c123 => ?_) (fun c123 => ?_)
                              · refine rr_iconst pf_239_245 ?_
                                refine rr_iret pf_239_246 pt_239 ⟨_, M118, rfl, rfl, q119, (by unfold rSumV; rw [if_neg (by omega), if_neg (by omega), if_neg (by omega), if_neg hcm]), (by unfold rSum; rw [if_neg (by omega)]; rw [if_neg (by omega)]; rw [if_neg (by omega)]; rw [if_neg hcm, hC]; rw [if_neg (by omega)]; exact pS_M118), (rq121)⟩
                              · exfalso; omega
                            · refine rr_iconst pf_239_219 ?_
                              refine rr_goto 224 pf_239_220 (by decide) ?_
                              obtain ⟨M124, ⟨kq125, pS_M124, pf_M124⟩, hcM124⟩ := ct_RS_must (xs := xs) (L := L) (d := d) (u := 1) (E := E) (s := s) (b := s.i) (by omega) hW q0.1 q0.2.1 hs hf (by omega)
                              have q125 := qk_trm q0 kq125 (by decide)
                              have rq127 := fz_tr (fz_rf [14, 15, 16, 17, 18, 19, 23, 26, 29, 30] M0) pf_M124 (by decide)
                              refine rr_cV1 pf_239_224 po_239 pc_9_309 (ws_228 hW) po_227 (by decide) rfl hcM124 ?_
                              rw [mst1] at pS_M124
                              have hE1 := tkE_1 (tb := E.tb) hs.hi (show tkK E.tn E.tb s.i ≠ 0 from (by omega : rK E s ≠ 0))
                              refine rr_aload_n pf_239_227 rfl ?_
                              refine vr_getZ q125 pf_239_228 po_239 pg_9_276 rfl (ws_228 hW) (by decide) (fun x128 hx128 rx128 => ?_)
                              rw [pS_M124.h19] at hx128
                              change x128 = s.flt at hx128
                              rw [hf] at hx128
                              refine rr_if_ne 245 pf_239_231 (by decide) rx128 (fun c129 => ?_) (fun c129 => ?_)
                              · exfalso; omega
                              · refine rr_aload_n pf_239_234 rfl ?_
                                refine rr_iconst pf_239_235 ?_
                                obtain ⟨M130, ⟨kq131, pS_M130, pf_M130⟩, hcM130⟩ := ct_RS_settle (xs := xs) (L := L) (d := d) (le := 5) (E := E) (s := (nxS E s)) (b := s.i) (by omega) hW q125.1 q125.2.1 pS_M124 (by unfold rg; omega)
                                have q131 := qk_trm q125 kq131 (by decide)
                                have rq133 := fz_tr rq127 pf_M130 (by decide)
                                refine rr_cV1 pf_239_236 po_239 pc_9_380 (ws_228 hW) po_241 (by decide) rfl hcM130 ?_
                                refine rr_aload_n pf_239_239 rfl ?_
                                refine rr_iload_n pf_239_240 rfl ?_
                                refine rr_iconst pf_239_241 ?_
                                obtain ⟨M134, ⟨kq135, pS_M134, pf_M134⟩, hcM134⟩ := ct_RS_push (xs := xs) (L := L) (d := d) (a := y112) (b_ := 0) (E := E) (s := (stS 5 (nxS E s))) (b := s.i) (by omega) hW q131.1 q131.2.1 pS_M130 (by omega) (by omega) (by omega)
                                have q135 := qk_trm q131 kq135 (by decide)
                                have rq137 := fz_tr rq133 pf_M134 (by decide)
                                refine rr_cV2 pf_239_242 po_239 pc_9_341 (ws_228 hW) po_230 (by decide) rfl hcM134 ?_
                                refine rr_iconst pf_239_245 ?_
                                refine rr_iret pf_239_246 pt_239 ⟨_, M134, rfl, rfl, q135, (by unfold rSumV; rw [if_neg (by omega), if_neg (by omega), if_neg (by omega), if_neg hcm]), (by unfold rSum; rw [if_neg (by omega)]; rw [if_neg (by omega)]; rw [if_neg (by omega)]; rw [if_neg hcm, hC]; rw [if_pos (by omega)]; exact RS_b pS_M134 (Nat.le_trans pS_M134.hnb (by show _ ≤ tkE E.tn E.tb s.i; omega)) (by show tkE E.tn E.tb s.i ≤ 400; omega)), (rq137)⟩
                        · refine rr_bipush pf_239_195 (by decide) ?_
                          refine rr_goto 202 pf_239_197 (by decide) ?_
                          refine rr_istore_n pf_239_202 (fun y => [.ref 228, .int (iI (u)), .int (iI (y)), .int (iI (y26))]) (Nat.le_of_ble_eq_true rfl) (fun _ => rfl) (fun y138 hy138 => ?_)
                          have hC : rCm E s = y138 := by unfold rCm; rw [if_neg (by omega), if_pos (by omega)]; omega
                          refine rr_aload_n pf_239_203 rfl ?_
                          refine rr_iload_n pf_239_204 rfl ?_
                          refine rr_bipush pf_239_205 (by decide) ?_
                          refine rr_icmp_ne 219 pf_239_207 (by decide) (by unfold rg; omega) (by unfold rg; omega) (fun c139 => ?_) (fun c139 => ?_)
                          · refine rr_iconst pf_239_219 ?_
                            refine rr_goto 224 pf_239_220 (by decide) ?_
                            obtain ⟨M140, ⟨kq141, pS_M140, pf_M140⟩, hcM140⟩ := ct_RS_must (xs := xs) (L := L) (d := d) (u := 1) (E := E) (s := s) (b := s.i) (by omega) hW q0.1 q0.2.1 hs hf (by omega)
                            have q141 := qk_trm q0 kq141 (by decide)
                            have rq143 := fz_tr (fz_rf [14, 15, 16, 17, 18, 19, 23, 26, 29, 30] M0) pf_M140 (by decide)
                            refine rr_cV1 pf_239_224 po_239 pc_9_309 (ws_228 hW) po_227 (by decide) rfl hcM140 ?_
                            rw [mst1] at pS_M140
                            have hE1 := tkE_1 (tb := E.tb) hs.hi (show tkK E.tn E.tb s.i ≠ 0 from (by omega : rK E s ≠ 0))
                            refine rr_aload_n pf_239_227 rfl ?_
                            refine vr_getZ q141 pf_239_228 po_239 pg_9_276 rfl (ws_228 hW) (by decide) (fun x144 hx144 rx144 => ?_)
                            rw [pS_M140.h19] at hx144
                            change x144 = s.flt at hx144
                            rw [hf] at hx144
                            refine rr_if_ne 245 pf_239_231 (by decide) rx144 (fun c145 => ?_) (fun c145 => ?_)
                            · exfalso; omega
                            · refine rr_aload_n pf_239_234 rfl ?_
                              refine rr_iconst pf_239_235 ?_
                              obtain ⟨M146, ⟨kq147, pS_M146, pf_M146⟩, hcM146⟩ := ct_RS_settle (xs := xs) (L := L) (d := d) (le := 5) (E := E) (s := (nxS E s)) (b := s.i) (by omega) hW q141.1 q141.2.1 pS_M140 (by unfold rg; omega)
                              have q147 := qk_trm q141 kq147 (by decide)
                              have rq149 := fz_tr rq143 pf_M146 (by decide)
                              refine rr_cV1 pf_239_236 po_239 pc_9_380 (ws_228 hW) po_241 (by decide) rfl hcM146 ?_
                              refine rr_aload_n pf_239_239 rfl ?_
                              refine rr_iload_n pf_239_240 rfl ?_
                              refine rr_iconst pf_239_241 ?_
                              obtain ⟨M150, ⟨kq151, pS_M150, pf_M150⟩, hcM150⟩ := ct_RS_push (xs := xs) (L := L) (d := d) (a := y138) (b_ := 0) (E := E) (s := (stS 5 (nxS E s))) (b := s.i) (by omega) hW q147.1 q147.2.1 pS_M146 (by omega) (by omega) (by omega)
                              have q151 := qk_trm q147 kq151 (by decide)
                              have rq153 := fz_tr rq149 pf_M150 (by decide)
                              refine rr_cV2 pf_239_242 po_239 pc_9_341 (ws_228 hW) po_230 (by decide) rfl hcM150 ?_
                              refine rr_iconst pf_239_245 ?_
                              refine rr_iret pf_239_246 pt_239 ⟨_, M150, rfl, rfl, q151, (by unfold rSumV; rw [if_neg (by omega), if_neg (by omega), if_neg (by omega), if_neg hcm]), (by unfold rSum; rw [if_neg (by omega)]; rw [if_neg (by omega)]; rw [if_neg (by omega)]; rw [if_neg hcm, hC]; rw [if_pos (by omega)]; exact RS_b pS_M150 (Nat.le_trans pS_M150.hnb (by show _ ≤ tkE E.tn E.tb s.i; omega)) (by show tkE E.tn E.tb s.i ≤ 400; omega)), (rq153)⟩
                          · exfalso; omega
                      · refine rr_bipush pf_239_181 (by decide) ?_
                        refine rr_goto 202 pf_239_183 (by decide) ?_
                        refine rr_istore_n pf_239_202 (fun y => [.ref 228, .int (iI (u)), .int (iI (y)), .int (iI (y26))]) (Nat.le_of_ble_eq_true rfl) (fun _ => rfl) (fun y154 hy154 => ?_)
                        have hC : rCm E s = y154 := by unfold rCm; rw [if_pos (by omega)]; omega
                        refine rr_aload_n pf_239_203 rfl ?_
                        refine rr_iload_n pf_239_204 rfl ?_
                        refine rr_bipush pf_239_205 (by decide) ?_
                        refine rr_icmp_ne 219 pf_239_207 (by decide) (by unfold rg; omega) (by unfold rg; omega) (fun c155 => ?_) (fun c155 => ?_)
                        · refine rr_iconst pf_239_219 ?_
                          refine rr_goto 224 pf_239_220 (by decide) ?_
                          obtain ⟨M156, ⟨kq157, pS_M156, pf_M156⟩, hcM156⟩ := ct_RS_must (xs := xs) (L := L) (d := d) (u := 1) (E := E) (s := s) (b := s.i) (by omega) hW q0.1 q0.2.1 hs hf (by omega)
                          have q157 := qk_trm q0 kq157 (by decide)
                          have rq159 := fz_tr (fz_rf [14, 15, 16, 17, 18, 19, 23, 26, 29, 30] M0) pf_M156 (by decide)
                          refine rr_cV1 pf_239_224 po_239 pc_9_309 (ws_228 hW) po_227 (by decide) rfl hcM156 ?_
                          rw [mst1] at pS_M156
                          have hE1 := tkE_1 (tb := E.tb) hs.hi (show tkK E.tn E.tb s.i ≠ 0 from (by omega : rK E s ≠ 0))
                          refine rr_aload_n pf_239_227 rfl ?_
                          refine vr_getZ q157 pf_239_228 po_239 pg_9_276 rfl (ws_228 hW) (by decide) (fun x160 hx160 rx160 => ?_)
                          rw [pS_M156.h19] at hx160
                          change x160 = s.flt at hx160
                          rw [hf] at hx160
                          refine rr_if_ne 245 pf_239_231 (by decide) rx160 (fun c161 => ?_) (fun c161 => ?_)
                          · exfalso; omega
                          · refine rr_aload_n pf_239_234 rfl ?_
                            refine rr_iconst pf_239_235 ?_
                            obtain ⟨M162, ⟨kq163, pS_M162, pf_M162⟩, hcM162⟩ := ct_RS_settle (xs := xs) (L := L) (d := d) (le := 5) (E := E) (s := (nxS E s)) (b := s.i) (by omega) hW q157.1 q157.2.1 pS_M156 (by unfold rg; omega)
                            have q163 := qk_trm q157 kq163 (by decide)
                            have rq165 := fz_tr rq159 pf_M162 (by decide)
                            refine rr_cV1 pf_239_236 po_239 pc_9_380 (ws_228 hW) po_241 (by decide) rfl hcM162 ?_
                            refine rr_aload_n pf_239_239 rfl ?_
                            refine rr_iload_n pf_239_240 rfl ?_
                            refine rr_iconst pf_239_241 ?_
                            obtain ⟨M166, ⟨kq167, pS_M166, pf_M166⟩, hcM166⟩ := ct_RS_push (xs := xs) (L := L) (d := d) (a := y154) (b_ := 0) (E := E) (s := (stS 5 (nxS E s))) (b := s.i) (by omega) hW q163.1 q163.2.1 pS_M162 (by omega) (by omega) (by omega)
                            have q167 := qk_trm q163 kq167 (by decide)
                            have rq169 := fz_tr rq165 pf_M166 (by decide)
                            refine rr_cV2 pf_239_242 po_239 pc_9_341 (ws_228 hW) po_230 (by decide) rfl hcM166 ?_
                            refine rr_iconst pf_239_245 ?_
                            refine rr_iret pf_239_246 pt_239 ⟨_, M166, rfl, rfl, q167, (by unfold rSumV; rw [if_neg (by omega), if_neg (by omega), if_neg (by omega), if_neg hcm]), (by unfold rSum; rw [if_neg (by omega)]; rw [if_neg (by omega)]; rw [if_neg (by omega)]; rw [if_neg hcm, hC]; rw [if_pos (by omega)]; exact RS_b pS_M166 (Nat.le_trans pS_M166.hnb (by show _ ≤ tkE E.tn E.tb s.i; omega)) (by show tkE E.tn E.tb s.i ≤ 400; omega)), (rq169)⟩
                        · exfalso; omega
                    · have hcm := c103
                      refine rr_iconst pf_239_170 ?_
                      refine rr_iret pf_239_171 pt_239 ⟨_, M0, rfl, rfl, q0, (by unfold rSumV; rw [if_neg (by omega), if_neg (by omega), if_neg (by omega), if_pos hcm]), (by unfold rSum; rw [if_neg (by omega)]; rw [if_neg (by omega)]; rw [if_neg (by omega)]; rw [if_pos hcm]; exact hs), ((fz_rf [14, 15, 16, 17, 18, 19, 23, 26, 29, 30] M0))⟩
                  · refine rr_iconst pf_239_161 ?_
                    refine rr_iret pf_239_162 pt_239 ⟨_, M0, rfl, rfl, q0, (by unfold rSumV; rw [if_neg (by omega), if_neg (by omega), if_pos ⟨by omega, by omega⟩]), (by unfold rSum; rw [if_neg (by omega)]; rw [if_neg (by omega)]; rw [if_pos ⟨by omega, by omega⟩]; exact hs), ((fz_rf [14, 15, 16, 17, 18, 19, 23, 26, 29, 30] M0))⟩
              · refine rr_aload_n pf_239_108 rfl ?_
                refine rr_aload_n pf_239_109 rfl ?_
                refine rr_bipush pf_239_110 (by decide) ?_
                obtain ⟨M170, kq171, hcM170⟩ := ct_RS_isSign (xs := xs) (L := L) (d := d) (u := 93) (E := E) (s := s) (b := s.i) (by omega) hW q0.1 q0.2.1 hs (by unfold rg; omega)
                obtain rfl := qk_nil kq171
                refine rr_cV1 pf_239_112 po_239 pc_9_347 (ws_228 hW) po_231 (by decide) rfl hcM170 ?_
                obtain ⟨M173, ⟨kq174, pS_M173, pf_M173⟩, hcM173⟩ := ct_RS_must (xs := xs) (L := L) (d := d) (u := bI (rK E s = 3 ∧ rW E s = 93)) (E := E) (s := s) (b := s.i) (by omega) hW q0.1 q0.2.1 hs hf (by have := bI_rg (rK E s = 3 ∧ rW E s = 93); omega)
                have q174 := qk_trm q0 kq174 (by decide)
                have rq176 := fz_tr (fz_rf [14, 15, 16, 17, 18, 19, 23, 26, 29, 30] M0) pf_M173 (by decide)
                refine rr_cV1 pf_239_115 po_239 pc_9_309 (ws_228 hW) po_227 (by decide) rfl hcM173 ?_
                refine rr_aload_n pf_239_118 rfl ?_
                refine vr_getZ q174 pf_239_119 po_239 pg_9_276 rfl (ws_228 hW) (by decide) (fun x177 hx177 rx177 => ?_)
                rw [pS_M173.h19] at hx177
                refine rr_if_ne 150 pf_239_122 (by decide) rx177 (fun c178 => ?_) (fun c178 => ?_)
                · have hn : ¬ (rK E s = 3 ∧ rW E s = 93) := fun z => by
                    rw [bI_t z, mst1] at hx177
                    have hz : x177 = s.flt := hx177
                    omega
                  rw [bI_f hn, mst0] at pS_M173
                  refine rr_iconst pf_239_150 ?_
                  refine rr_iret pf_239_151 pt_239 ⟨_, M173, rfl, rfl, q174, (by unfold rSumV; rw [if_neg (by omega), if_pos (by omega)]), (by unfold rSum; rw [if_neg (by omega)]; rw [if_pos (by omega)]; rw [if_neg hn]; exact pS_M173), (rq176)⟩
                · have hn : rK E s = 3 ∧ rW E s = 93 := Decidable.byContradiction (fun z => by
                    rw [bI_f z, mst0] at hx177
                    have hz : x177 = 1 := hx177
                    omega)
                  rw [bI_t hn, mst1] at pS_M173
                  have hE1 := tkE_1 (tb := E.tb) hs.hi (show tkK E.tn E.tb s.i ≠ 0 from (by omega : rK E s ≠ 0))
                  refine rr_aload_n pf_239_125 rfl ?_
                  refine rr_iconst pf_239_126 ?_
                  obtain ⟨M179, ⟨kq180, pS_M179, pf_M179⟩, hcM179⟩ := ct_RS_settle (xs := xs) (L := L) (d := d) (le := 5) (E := E) (s := (nxS E s)) (b := s.i) (by omega) hW q174.1 q174.2.1 pS_M173 (by unfold rg; omega)
                  have q180 := qk_trm q174 kq180 (by decide)
                  have rq182 := fz_tr rq176 pf_M179 (by decide)
                  refine rr_cV1 pf_239_127 po_239 pc_9_380 (ws_228 hW) po_241 (by decide) rfl hcM179 ?_
                  refine rr_aload_n pf_239_130 rfl ?_
                  refine rr_dup pf_239_131 rfl ?_
                  refine vr_getI q180 pf_239_132 po_239 pg_9_316 rfl (ws_228 hW) (by decide) (fun x183 hx183 rx183 => ?_)
                  rw [pS_M179.h29] at hx183
                  refine rr_iconst pf_239_135 ?_
                  refine rr_isub pf_239_136 ?_
                  refine vr_putI hW q180 pf_239_137 po_239 pg_9_316 (Or.inl rfl) rfl (ws_228 hW) (by decide) (by unfold rg; omega) (by decide) (fun M184 eM184 q185 => ?_)
                  have rq186 := fz_up rq182 eM184 (by decide)
                  have hsM184 := RS_pop pS_M179 eM184 (by omega) (stS_ne (s := nxS E s) (by decide) (show innL s.pl ≠ -1 by omega))
                  refine rr_aload_n pf_239_140 rfl ?_
                  refine rr_dup pf_239_141 rfl ?_
                  refine vr_getI q185 pf_239_142 po_239 pg_9_338 rfl (ws_228 hW) (by decide) (fun x187 hx187 rx187 => ?_)
                  rw [hsM184.h30] at hx187
                  change x187 = s.op at hx187
                  refine rr_iconst pf_239_145 ?_
                  refine rr_isub pf_239_146 ?_
                  refine vr_putI hW q185 pf_239_147 po_239 pg_9_338 (Or.inl rfl) rfl (ws_228 hW) (by decide) (by unfold rg; omega) (by decide) (fun M188 eM188 q189 => ?_)
                  have rq190 := fz_up rq186 eM188 (by decide)
                  have hsM188 := RS_op (k := -1) hsM184 eM188 (by show _ = s.op + (-1); omega) (by show -((tkE E.tn E.tb s.i : Nat) : Int) ≤ s.op + (-1) ∧ s.op + (-1) ≤ 8; omega)
                  refine rr_iconst pf_239_150 ?_
                  refine rr_iret pf_239_151 pt_239 ⟨_, M188, rfl, rfl, q189, (by unfold rSumV; rw [if_neg (by omega), if_pos (by omega)]), (by unfold rSum; rw [if_neg (by omega)]; rw [if_pos (by omega)]; rw [if_pos hn]; exact RS_b hsM188 (Nat.le_trans hsM188.hnb (by show _ ≤ tkE E.tn E.tb s.i; omega)) (by show tkE E.tn E.tb s.i ≤ 400; omega)), (rq190)⟩
            · exfalso; omega
          · have hE1 := tkE_1 (tb := E.tb) hs.hi (show tkK E.tn E.tb s.i ≠ 0 from (by omega : rK E s ≠ 0))
            refine rr_bipush pf_239_65 (by decide) ?_
            refine rr_goto 71 pf_239_67 (by decide) ?_
            refine rr_istore_n pf_239_71 (fun y => [.ref 228, .int (iI (u)), .int (iI (y)), px_jk]) (Nat.le_of_ble_eq_true rfl) (fun _ => rfl) (fun y191 hy191 => ?_)
            have hO : rOp E s = y191 := by unfold rOp; rw [if_neg (by omega), if_neg (by omega), if_neg (by omega), if_neg (by omega), if_pos (by omega)]; omega
            refine rr_iload_n pf_239_72 rfl ?_
            refine rr_iconst pf_239_73 ?_
            refine rr_icmp_eq 97 pf_239_74 (by decide) (by unfold rg; omega) (by unfold rg; omega) (fun c192 => ?_) (fun c192 => ?_)
            · exfalso; omega
            · refine rr_aload_n pf_239_77 rfl ?_
              refine rr_iload_n pf_239_78 rfl ?_
              obtain ⟨r195, M193, ⟨kq194, pv_M193⟩, hcM193⟩ := ct_R_binds (xs := xs) (L := L) (d := d) (a := y191) (by omega) hW q0.1 q0.2.1 (by unfold rg; omega)
              obtain rfl := qk_nil kq194
              refine rr_cS1 pf_239_79 po_239 pc_9_319 (by decide) rfl hcM193 ?_
              have hbb := bnd_b y191
              obtain ⟨M196, ⟨kq197, pS_M196, pf_M196⟩, hcM196⟩ := ct_RS_settle (xs := xs) (L := L) (d := d) (le := r195) (E := E) (s := s) (b := s.i) (by omega) hW q0.1 q0.2.1 hs (by unfold rg; omega)
              have q197 := qk_trm q0 kq197 (by decide)
              have rq199 := fz_tr (fz_rf [14, 15, 16, 17, 18, 19, 23, 26, 29, 30] M0) pf_M196 (by decide)
              refine rr_cV1 pf_239_82 po_239 pc_9_380 (ws_228 hW) po_241 (by decide) rfl hcM196 ?_
              refine rr_aload_n pf_239_85 rfl ?_
              refine rr_iload_n pf_239_86 rfl ?_
              refine rr_iconst pf_239_87 ?_
              obtain ⟨M200, ⟨kq201, pS_M200, pf_M200⟩, hcM200⟩ := ct_RS_push (xs := xs) (L := L) (d := d) (a := y191) (b_ := 0) (E := E) (s := (stS r195 s)) (b := s.i) (by omega) hW q197.1 q197.2.1 pS_M196 (by omega) (by omega) (by omega)
              have q201 := qk_trm q197 kq201 (by decide)
              have rq203 := fz_tr rq199 pf_M200 (by decide)
              refine rr_cV2 pf_239_88 po_239 pc_9_341 (ws_228 hW) po_230 (by decide) rfl hcM200 ?_
              refine rr_aload_n pf_239_91 rfl ?_
              obtain ⟨M204, ⟨kq205, pS_M204, pf_M204⟩, hcM204⟩ := ct_RS_next (xs := xs) (L := L) (d := d) (E := E) (s := (psh y191 0 (stS r195 s))) (b := s.i + 1) (by omega) hW q201.1 q201.2.1 pS_M200
              have q205 := qk_trm q201 kq205 (by decide)
              have rq207 := fz_tr rq203 pf_M204 (by decide)
              refine rr_cV0 pf_239_92 po_239 pc_9_280 (ws_228 hW) po_222 (by decide) rfl hcM204 ?_
              refine rr_iconst pf_239_95 ?_
              refine rr_iret pf_239_96 pt_239 ⟨_, M204, rfl, rfl, q205, (by unfold rSumV; rw [hO, if_pos (by omega)]), (by unfold rSum; rw [hO, if_pos (by omega), ← pv_M193]; exact RS_b pS_M204 (Nat.le_trans pS_M204.hnb (by show _ ≤ tkE E.tn E.tb s.i; omega)) (by show tkE E.tn E.tb s.i ≤ 400; omega)), (rq207)⟩
        · have hE1 := tkE_1 (tb := E.tb) hs.hi (show tkK E.tn E.tb s.i ≠ 0 from (by omega : rK E s ≠ 0))
          refine rr_bipush pf_239_51 (by decide) ?_
          refine rr_goto 71 pf_239_53 (by decide) ?_
          refine rr_istore_n pf_239_71 (fun y => [.ref 228, .int (iI (u)), .int (iI (y)), px_jk]) (Nat.le_of_ble_eq_true rfl) (fun _ => rfl) (fun y208 hy208 => ?_)
          have hO : rOp E s = y208 := by unfold rOp; rw [if_neg (by omega), if_neg (by omega), if_neg (by omega), if_pos (by omega)]; omega
          refine rr_iload_n pf_239_72 rfl ?_
          refine rr_iconst pf_239_73 ?_
          refine rr_icmp_eq 97 pf_239_74 (by decide) (by unfold rg; omega) (by unfold rg; omega) (fun c209 => ?_) (fun c209 => ?_)
          · exfalso; omega
          · refine rr_aload_n pf_239_77 rfl ?_
            refine rr_iload_n pf_239_78 rfl ?_
            obtain ⟨r212, M210, ⟨kq211, pv_M210⟩, hcM210⟩ := ct_R_binds (xs := xs) (L := L) (d := d) (a := y208) (by omega) hW q0.1 q0.2.1 (by unfold rg; omega)
            obtain rfl := qk_nil kq211
            refine rr_cS1 pf_239_79 po_239 pc_9_319 (by decide) rfl hcM210 ?_
            have hbb := bnd_b y208
            obtain ⟨M213, ⟨kq214, pS_M213, pf_M213⟩, hcM213⟩ := ct_RS_settle (xs := xs) (L := L) (d := d) (le := r212) (E := E) (s := s) (b := s.i) (by omega) hW q0.1 q0.2.1 hs (by unfold rg; omega)
            have q214 := qk_trm q0 kq214 (by decide)
            have rq216 := fz_tr (fz_rf [14, 15, 16, 17, 18, 19, 23, 26, 29, 30] M0) pf_M213 (by decide)
            refine rr_cV1 pf_239_82 po_239 pc_9_380 (ws_228 hW) po_241 (by decide) rfl hcM213 ?_
            refine rr_aload_n pf_239_85 rfl ?_
            refine rr_iload_n pf_239_86 rfl ?_
            refine rr_iconst pf_239_87 ?_
            obtain ⟨M217, ⟨kq218, pS_M217, pf_M217⟩, hcM217⟩ := ct_RS_push (xs := xs) (L := L) (d := d) (a := y208) (b_ := 0) (E := E) (s := (stS r212 s)) (b := s.i) (by omega) hW q214.1 q214.2.1 pS_M213 (by omega) (by omega) (by omega)
            have q218 := qk_trm q214 kq218 (by decide)
            have rq220 := fz_tr rq216 pf_M217 (by decide)
            refine rr_cV2 pf_239_88 po_239 pc_9_341 (ws_228 hW) po_230 (by decide) rfl hcM217 ?_
            refine rr_aload_n pf_239_91 rfl ?_
            obtain ⟨M221, ⟨kq222, pS_M221, pf_M221⟩, hcM221⟩ := ct_RS_next (xs := xs) (L := L) (d := d) (E := E) (s := (psh y208 0 (stS r212 s))) (b := s.i + 1) (by omega) hW q218.1 q218.2.1 pS_M217
            have q222 := qk_trm q218 kq222 (by decide)
            have rq224 := fz_tr rq220 pf_M221 (by decide)
            refine rr_cV0 pf_239_92 po_239 pc_9_280 (ws_228 hW) po_222 (by decide) rfl hcM221 ?_
            refine rr_iconst pf_239_95 ?_
            refine rr_iret pf_239_96 pt_239 ⟨_, M221, rfl, rfl, q222, (by unfold rSumV; rw [hO, if_pos (by omega)]), (by unfold rSum; rw [hO, if_pos (by omega), ← pv_M210]; exact RS_b pS_M221 (Nat.le_trans pS_M221.hnb (by show _ ≤ tkE E.tn E.tb s.i; omega)) (by show tkE E.tn E.tb s.i ≤ 400; omega)), (rq224)⟩
      · have hE1 := tkE_1 (tb := E.tb) hs.hi (show tkK E.tn E.tb s.i ≠ 0 from (by omega : rK E s ≠ 0))
        refine rr_bipush pf_239_37 (by decide) ?_
        refine rr_goto 71 pf_239_39 (by decide) ?_
        refine rr_istore_n pf_239_71 (fun y => [.ref 228, .int (iI (u)), .int (iI (y)), px_jk]) (Nat.le_of_ble_eq_true rfl) (fun _ => rfl) (fun y225 hy225 => ?_)
        have hO : rOp E s = y225 := by unfold rOp; rw [if_neg (by omega), if_neg (by omega), if_pos (by omega)]; omega
        refine rr_iload_n pf_239_72 rfl ?_
        refine rr_iconst pf_239_73 ?_
        refine rr_icmp_eq 97 pf_239_74 (by decide) (by unfold rg; omega) (by unfold rg; omega) (fun c226 => ?_) (fun c226 => ?_)
        · exfalso; omega
        · refine rr_aload_n pf_239_77 rfl ?_
          refine rr_iload_n pf_239_78 rfl ?_
          obtain ⟨r229, M227, ⟨kq228, pv_M227⟩, hcM227⟩ := ct_R_binds (xs := xs) (L := L) (d := d) (a := y225) (by omega) hW q0.1 q0.2.1 (by unfold rg; omega)
          obtain rfl := qk_nil kq228
          refine rr_cS1 pf_239_79 po_239 pc_9_319 (by decide) rfl hcM227 ?_
          have hbb := bnd_b y225
          obtain ⟨M230, ⟨kq231, pS_M230, pf_M230⟩, hcM230⟩ := ct_RS_settle (xs := xs) (L := L) (d := d) (le := r229) (E := E) (s := s) (b := s.i) (by omega) hW q0.1 q0.2.1 hs (by unfold rg; omega)
          have q231 := qk_trm q0 kq231 (by decide)
          have rq233 := fz_tr (fz_rf [14, 15, 16, 17, 18, 19, 23, 26, 29, 30] M0) pf_M230 (by decide)
          refine rr_cV1 pf_239_82 po_239 pc_9_380 (ws_228 hW) po_241 (by decide) rfl hcM230 ?_
          refine rr_aload_n pf_239_85 rfl ?_
          refine rr_iload_n pf_239_86 rfl ?_
          refine rr_iconst pf_239_87 ?_
          obtain ⟨M234, ⟨kq235, pS_M234, pf_M234⟩, hcM234⟩ := ct_RS_push (xs := xs) (L := L) (d := d) (a := y225) (b_ := 0) (E := E) (s := (stS r229 s)) (b := s.i) (by omega) hW q231.1 q231.2.1 pS_M230 (by omega) (by omega) (by omega)
          have q235 := qk_trm q231 kq235 (by decide)
          have rq237 := fz_tr rq233 pf_M234 (by decide)
          refine rr_cV2 pf_239_88 po_239 pc_9_341 (ws_228 hW) po_230 (by decide) rfl hcM234 ?_
          refine rr_aload_n pf_239_91 rfl ?_
          obtain ⟨M238, ⟨kq239, pS_M238, pf_M238⟩, hcM238⟩ := ct_RS_next (xs := xs) (L := L) (d := d) (E := E) (s := (psh y225 0 (stS r229 s))) (b := s.i + 1) (by omega) hW q235.1 q235.2.1 pS_M234
          have q239 := qk_trm q235 kq239 (by decide)
          have rq241 := fz_tr rq237 pf_M238 (by decide)
          refine rr_cV0 pf_239_92 po_239 pc_9_280 (ws_228 hW) po_222 (by decide) rfl hcM238 ?_
          refine rr_iconst pf_239_95 ?_
          refine rr_iret pf_239_96 pt_239 ⟨_, M238, rfl, rfl, q239, (by unfold rSumV; rw [hO, if_pos (by omega)]), (by unfold rSum; rw [hO, if_pos (by omega), ← pv_M227]; exact RS_b pS_M238 (Nat.le_trans pS_M238.hnb (by show _ ≤ tkE E.tn E.tb s.i; omega)) (by show tkE E.tn E.tb s.i ≤ 400; omega)), (rq241)⟩
    · have hE1 := tkE_1 (tb := E.tb) hs.hi (show tkK E.tn E.tb s.i ≠ 0 from (by omega : rK E s ≠ 0))
      refine rr_bipush pf_239_23 (by decide) ?_
      refine rr_goto 71 pf_239_25 (by decide) ?_
      refine rr_istore_n pf_239_71 (fun y => [.ref 228, .int (iI (u)), .int (iI (y)), px_jk]) (Nat.le_of_ble_eq_true rfl) (fun _ => rfl) (fun y242 hy242 => ?_)
      have hO : rOp E s = y242 := by unfold rOp; rw [if_neg (by omega), if_pos (by omega)]; omega
      refine rr_iload_n pf_239_72 rfl ?_
      refine rr_iconst pf_239_73 ?_
      refine rr_icmp_eq 97 pf_239_74 (by decide) (by unfold rg; omega) (by unfold rg; omega) (fun c243 => ?_) (fun c243 => ?_)
      · exfalso; omega
      · refine rr_aload_n pf_239_77 rfl ?_
        refine rr_iload_n pf_239_78 rfl ?_
        obtain ⟨r246, M244, ⟨kq245, pv_M244⟩, hcM244⟩ := ct_R_binds (xs := xs) (L := L) (d := d) (a := y242) (by omega) hW q0.1 q0.2.1 (by unfold rg; omega)
        obtain rfl := qk_nil kq245
        refine rr_cS1 pf_239_79 po_239 pc_9_319 (by decide) rfl hcM244 ?_
        have hbb := bnd_b y242
        obtain ⟨M247, ⟨kq248, pS_M247, pf_M247⟩, hcM247⟩ := ct_RS_settle (xs := xs) (L := L) (d := d) (le := r246) (E := E) (s := s) (b := s.i) (by omega) hW q0.1 q0.2.1 hs (by unfold rg; omega)
        have q248 := qk_trm q0 kq248 (by decide)
        have rq250 := fz_tr (fz_rf [14, 15, 16, 17, 18, 19, 23, 26, 29, 30] M0) pf_M247 (by decide)
        refine rr_cV1 pf_239_82 po_239 pc_9_380 (ws_228 hW) po_241 (by decide) rfl hcM247 ?_
        refine rr_aload_n pf_239_85 rfl ?_
        refine rr_iload_n pf_239_86 rfl ?_
        refine rr_iconst pf_239_87 ?_
        obtain ⟨M251, ⟨kq252, pS_M251, pf_M251⟩, hcM251⟩ := ct_RS_push (xs := xs) (L := L) (d := d) (a := y242) (b_ := 0) (E := E) (s := (stS r246 s)) (b := s.i) (by omega) hW q248.1 q248.2.1 pS_M247 (by omega) (by omega) (by omega)
        have q252 := qk_trm q248 kq252 (by decide)
        have rq254 := fz_tr rq250 pf_M251 (by decide)
        refine rr_cV2 pf_239_88 po_239 pc_9_341 (ws_228 hW) po_230 (by decide) rfl hcM251 ?_
        refine rr_aload_n pf_239_91 rfl ?_
        obtain ⟨M255, ⟨kq256, pS_M255, pf_M255⟩, hcM255⟩ := ct_RS_next (xs := xs) (L := L) (d := d) (E := E) (s := (psh y242 0 (stS r246 s))) (b := s.i + 1) (by omega) hW q252.1 q252.2.1 pS_M251
        have q256 := qk_trm q252 kq256 (by decide)
        have rq258 := fz_tr rq254 pf_M255 (by decide)
        refine rr_cV0 pf_239_92 po_239 pc_9_280 (ws_228 hW) po_222 (by decide) rfl hcM255 ?_
        refine rr_iconst pf_239_95 ?_
        refine rr_iret pf_239_96 pt_239 ⟨_, M255, rfl, rfl, q256, (by unfold rSumV; rw [hO, if_pos (by omega)]), (by unfold rSum; rw [hO, if_pos (by omega), ← pv_M244]; exact RS_b pS_M255 (Nat.le_trans pS_M255.hnb (by show _ ≤ tkE E.tn E.tb s.i; omega)) (by show tkE E.tn E.tb s.i ≤ 400; omega)), (rq258)⟩
  · have hE1 := tkE_1 (tb := E.tb) hs.hi (show tkK E.tn E.tb s.i ≠ 0 from (by omega : rK E s ≠ 0))
    refine rr_bipush pf_239_9 (by decide) ?_
    refine rr_goto 71 pf_239_11 (by decide) ?_
    refine rr_istore_n pf_239_71 (fun y => [.ref 228, .int (iI (u)), .int (iI (y)), px_jk]) (Nat.le_of_ble_eq_true rfl) (fun _ => rfl) (fun y259 hy259 => ?_)
    have hO : rOp E s = y259 := by unfold rOp; rw [if_pos (by omega)]; omega
    refine rr_iload_n pf_239_72 rfl ?_
    refine rr_iconst pf_239_73 ?_
    refine rr_icmp_eq 97 pf_239_74 (by decide) (by unfold rg; omega) (by unfold rg; omega) (fun c260 => ?_) (fun c260 => ?_)
    · exfalso; omega
    · refine rr_aload_n pf_239_77 rfl ?_
      refine rr_iload_n pf_239_78 rfl ?_
      obtain ⟨r263, M261, ⟨kq262, pv_M261⟩, hcM261⟩ := ct_R_binds (xs := xs) (L := L) (d := d) (a := y259) (by omega) hW q0.1 q0.2.1 (by unfold rg; omega)
      obtain rfl := qk_nil kq262
      refine rr_cS1 pf_239_79 po_239 pc_9_319 (by decide) rfl hcM261 ?_
      have hbb := bnd_b y259
      obtain ⟨M264, ⟨kq265, pS_M264, pf_M264⟩, hcM264⟩ := ct_RS_settle (xs := xs) (L := L) (d := d) (le := r263) (E := E) (s := s) (b := s.i) (by omega) hW q0.1 q0.2.1 hs (by unfold rg; omega)
      have q265 := qk_trm q0 kq265 (by decide)
      have rq267 := fz_tr (fz_rf [14, 15, 16, 17, 18, 19, 23, 26, 29, 30] M0) pf_M264 (by decide)
      refine rr_cV1 pf_239_82 po_239 pc_9_380 (ws_228 hW) po_241 (by decide) rfl hcM264 ?_
      refine rr_aload_n pf_239_85 rfl ?_
      refine rr_iload_n pf_239_86 rfl ?_
      refine rr_iconst pf_239_87 ?_
      obtain ⟨M268, ⟨kq269, pS_M268, pf_M268⟩, hcM268⟩ := ct_RS_push (xs := xs) (L := L) (d := d) (a := y259) (b_ := 0) (E := E) (s := (stS r263 s)) (b := s.i) (by omega) hW q265.1 q265.2.1 pS_M264 (by omega) (by omega) (by omega)
      have q269 := qk_trm q265 kq269 (by decide)
      have rq271 := fz_tr rq267 pf_M268 (by decide)
      refine rr_cV2 pf_239_88 po_239 pc_9_341 (ws_228 hW) po_230 (by decide) rfl hcM268 ?_
      refine rr_aload_n pf_239_91 rfl ?_
      obtain ⟨M272, ⟨kq273, pS_M272, pf_M272⟩, hcM272⟩ := ct_RS_next (xs := xs) (L := L) (d := d) (E := E) (s := (psh y259 0 (stS r263 s))) (b := s.i + 1) (by omega) hW q269.1 q269.2.1 pS_M268
      have q273 := qk_trm q269 kq273 (by decide)
      have rq275 := fz_tr rq271 pf_M272 (by decide)
      refine rr_cV0 pf_239_92 po_239 pc_9_280 (ws_228 hW) po_222 (by decide) rfl hcM272 ?_
      refine rr_iconst pf_239_95 ?_
      refine rr_iret pf_239_96 pt_239 ⟨_, M272, rfl, rfl, q273, (by unfold rSumV; rw [hO, if_pos (by omega)]), (by unfold rSum; rw [hO, if_pos (by omega), ← pv_M261]; exact RS_b pS_M272 (Nat.le_trans pS_M272.hnb (by show _ ≤ tkE E.tn E.tb s.i; omega)) (by show tkE E.tn E.tb s.i ≤ 400; omega)), (rq275)⟩
theorem ct_R_behindTest {xs : Nat → Int} {L d : Nat} {sh : List (Nat × Nat)} {M0 : Nat → Nat → Int} (hd : 4 ≤ d) (hW : px_W0 <+: sh) (hF : px_Fx M0) (hG : px_RG sh M0)  {E : rdE} {s : rdS} (hs : RS M0 E s.i s) (hf : s.flt = 0)  : ∃ v M, (px_qk sh [228, 239, 240, 241, 242] M0 M ∧ (v = rTestV E s) ∧ (RS M E (rTest E s).i (rTest E s)) ∧ (fz [14, 15, 16, 17, 18, 19, 23, 26, 29, 30] M0 M)) ∧ px_Cl xs L d 244 [.ref 228] (sh, M0) (some (.int (iI v))) (sh, M) := by
  obtain ⟨d, rfl⟩ : ∃ e, d = e + 1 := ⟨d - 1, by omega⟩
  have q0 : px_qk sh [228, 239, 240, 241, 242] M0 M0 := ⟨hF, hG, eo_rf⟩
  have hop := hs.hop
  have hi := hs.hi
  have htn := hs.htn
  have hE2 := (tkE_b (tb := E.tb) hs.hi).2
  have hlv := hs.hlv
  have hnb := hs.hnb
  refine vc_i (Nat.le_of_ble_eq_true rfl) ?_
  show px_R xs L d 244 (0, [.ref 228, px_jk], [], (sh, M0)) (fun r h' => ∃ v M', r = some (.int (iI v)) ∧ h' = (sh, M') ∧ px_qk sh [228, 239, 240, 241, 242] M0 M' ∧ v = rTestV E s ∧ RS M' E (rTest E s).i (rTest E s) ∧ fz [14, 15, 16, 17, 18, 19, 23, 26, 29, 30] M0 M')
  refine rr_aload_n pf_244_0 rfl ?_
  refine rr_ldc2_w pf_244_1 po_244 pl_9_390 ?_
  obtain ⟨M1, kq2, hcM1⟩ := ct_RS_isWord (xs := xs) (L := L) (d := d) (u := (1476)) (E := E) (s := s) (b := s.i) (by omega) hW q0.1 q0.2.1 hs (by unfold rl; omega)
  obtain rfl := qk_nil kq2
  refine rr_cV1 pf_244_4 po_244 pc_9_334 (ws_228 hW) po_226 (by decide) rfl hcM1 ?_
  refine rr_istore_n pf_244_7 (fun y => [.ref 228, .int (iI (y))]) (Nat.le_of_ble_eq_true rfl) (fun _ => rfl) (fun y4 hy4 => ?_)
  have ry4 := bI_rg (rK E s = 1 ∧ rW E s = (1476))
  have ty4 := bI_cs (rK E s = 1 ∧ rW E s = (1476))
  rw [← hy4] at ty4
  refine rr_iload_n pf_244_8 rfl ?_
  refine rr_if_ne 22 pf_244_9 (by decide) (by unfold rg; omega) (fun c5 => ?_) (fun c5 => ?_)
  · have hE2b := tkE_2 (tb := E.tb) hs.hi (show tkK E.tn E.tb s.i = 1 from (by omega : rK E s = 1)) (show 32 ≤ tkW E.tn E.tb s.i from (by omega : 32 ≤ rW E s))
    refine rr_aload_n pf_244_22 rfl ?_
    refine rr_iload_n pf_244_23 rfl ?_
    refine rr_if_eq 31 pf_244_24 (by decide) (by unfold rg; omega) (fun c6 => ?_) (fun c6 => ?_)
    · exfalso; omega
    · refine rr_iconst pf_244_27 ?_
      refine rr_goto 32 pf_244_28 (by decide) ?_
      obtain ⟨M7, ⟨kq8, pS_M7, pf_M7⟩, hcM7⟩ := ct_RS_settle (xs := xs) (L := L) (d := d) (le := 2) (E := E) (s := s) (b := s.i) (by omega) hW q0.1 q0.2.1 hs (by unfold rg; omega)
      have q8 := qk_trm q0 kq8 (by decide)
      have rq10 := fz_tr (fz_rf [14, 15, 16, 17, 18, 19, 23, 26, 29, 30] M0) pf_M7 (by decide)
      refine rr_cV1 pf_244_32 po_244 pc_9_380 (ws_228 hW) po_241 (by decide) rfl hcM7 ?_
      refine rr_aload_n pf_244_35 rfl ?_
      refine rr_iload_n pf_244_36 rfl ?_
      refine rr_if_eq 45 pf_244_37 (by decide) (by unfold rg; omega) (fun c11 => ?_) (fun c11 => ?_)
      · exfalso; omega
      · refine rr_bipush pf_244_40 (by decide) ?_
        refine rr_goto 47 pf_244_42 (by decide) ?_
        refine rr_aload_n pf_244_47 rfl ?_
        refine vr_getI q8 pf_244_48 po_244 pg_9_313 rfl (ws_228 hW) (by decide) (fun x12 hx12 rx12 => ?_)
        rw [pS_M7.h23] at hx12
        have hnb2 := pS_M7.hnb
        obtain ⟨M13, ⟨kq14, pS_M13, pf_M13⟩, hcM13⟩ := ct_RS_push (xs := xs) (L := L) (d := d) (a := 29) (b_ := x12) (E := E) (s := (stS 2 s)) (b := s.i) (by omega) hW q8.1 q8.2.1 pS_M7 (by omega) (by omega) (by omega)
        have q14 := qk_trm q8 kq14 (by decide)
        have rq16 := fz_tr rq10 pf_M13 (by decide)
        refine rr_cV2 pf_244_51 po_244 pc_9_341 (ws_228 hW) po_230 (by decide) rfl hcM13 ?_
        refine rr_aload_n pf_244_54 rfl ?_
        refine rr_iload_n pf_244_55 rfl ?_
        refine rr_if_eq 64 pf_244_56 (by decide) (by unfold rg; omega) (fun c17 => ?_) (fun c17 => ?_)
        · exfalso; omega
        · refine rr_bipush pf_244_59 (by decide) ?_
          refine rr_goto 66 pf_244_61 (by decide) ?_
          refine rr_iconst pf_244_66 ?_
          obtain ⟨M18, ⟨kq19, pS_M18, pf_M18⟩, hcM18⟩ := ct_RS_emit (xs := xs) (L := L) (d := d) (a := 29) (b_ := 0) (E := E) (s := (psh 29 x12 (stS 2 s))) (b := s.i + 1) (by omega) hW q14.1 q14.2.1 pS_M13 (by omega) (by unfold rg; omega) (by unfold rg; omega)
          have q19 := qk_trm q14 kq19 (by decide)
          have rq21 := fz_tr rq16 pf_M18 (by decide)
          refine rr_cV2 pf_244_67 po_244 pc_9_322 (ws_228 hW) po_237 (by decide) rfl hcM18 ?_
          refine rr_aload_n pf_244_70 rfl ?_
          obtain ⟨M22, ⟨kq23, pS_M22, pf_M22⟩, hcM22⟩ := ct_RS_next (xs := xs) (L := L) (d := d) (E := E) (s := (emt 29 0 (psh 29 x12 (stS 2 s)))) (b := s.i + 1 + 1) (by omega) hW q19.1 q19.2.1 pS_M18
          have q23 := qk_trm q19 kq23 (by decide)
          have rq25 := fz_tr rq21 pf_M22 (by decide)
          refine rr_cV0 pf_244_71 po_244 pc_9_280 (ws_228 hW) po_222 (by decide) rfl hcM22 ?_
          refine rr_iconst pf_244_74 ?_
          refine rr_iret pf_244_75 pt_244 ⟨_, M22, rfl, rfl, q23, (by unfold rTestV; rw [if_pos (by omega)]), (by unfold rTest; rw [if_pos (by omega), ← hx12]; exact RS_b pS_M22 (Nat.le_trans pS_M22.hnb (by show _ ≤ tkE E.tn E.tb s.i; omega)) (by show tkE E.tn E.tb s.i ≤ 400; omega)), (rq25)⟩
  · refine rr_aload_n pf_244_12 rfl ?_
    refine rr_ldc2_w pf_244_13 po_244 pl_9_392 ?_
    obtain ⟨M26, kq27, hcM26⟩ := ct_RS_isWord (xs := xs) (L := L) (d := d) (u := (498)) (E := E) (s := s) (b := s.i) (by omega) hW q0.1 q0.2.1 hs (by unfold rl; omega)
    obtain rfl := qk_nil kq27
    refine rr_cV1 pf_244_16 po_244 pc_9_334 (ws_228 hW) po_226 (by decide) rfl hcM26 ?_
    refine rr_ifb_eq 76 pf_244_19 (by decide) (fun c29 => ?_) (fun c29 => ?_)
    · refine rr_aload_n pf_244_76 rfl ?_
      obtain ⟨r32, M30, ⟨kq31, pv_M30, pr_M30⟩, hcM30⟩ := ct_RS_inner (xs := xs) (L := L) (d := d) (E := E) (s := s) (b := s.i) (by omega) hW q0.1 q0.2.1 hs
      obtain rfl := qk_nil kq31
      refine rr_cV0 pf_244_77 po_244 pc_9_383 (ws_228 hW) po_242 (by decide) rfl hcM30 ?_
      unfold rg at pr_M30
      refine rr_iconst pf_244_80 ?_
      refine rr_icmp_ne 86 pf_244_81 (by decide) (by unfold rg; omega) (by unfold rg; omega) (fun c33 => ?_) (fun c33 => ?_)
      · refine rr_aload_n pf_244_86 rfl ?_
        refine rr_aload_n pf_244_87 rfl ?_
        refine rr_bipush pf_244_88 (by decide) ?_
        obtain ⟨M34, kq35, hcM34⟩ := ct_RS_isSign (xs := xs) (L := L) (d := d) (u := 41) (E := E) (s := s) (b := s.i) (by omega) hW q0.1 q0.2.1 hs (by unfold rg; omega)
        obtain rfl := qk_nil kq35
        refine rr_cV1 pf_244_90 po_244 pc_9_347 (ws_228 hW) po_231 (by decide) rfl hcM34 ?_
        obtain ⟨M37, ⟨kq38, pS_M37, pf_M37⟩, hcM37⟩ := ct_RS_must (xs := xs) (L := L) (d := d) (u := bI (rK E s = 3 ∧ rW E s = 41)) (E := E) (s := s) (b := s.i) (by omega) hW q0.1 q0.2.1 hs hf (by have := bI_rg (rK E s = 3 ∧ rW E s = 41); omega)
        have q38 := qk_trm q0 kq38 (by decide)
        have rq40 := fz_tr (fz_rf [14, 15, 16, 17, 18, 19, 23, 26, 29, 30] M0) pf_M37 (by decide)
        refine rr_cV1 pf_244_93 po_244 pc_9_309 (ws_228 hW) po_227 (by decide) rfl hcM37 ?_
        refine rr_aload_n pf_244_96 rfl ?_
        refine vr_getZ q38 pf_244_97 po_244 pg_9_276 rfl (ws_228 hW) (by decide) (fun x41 hx41 rx41 => ?_)
        rw [pS_M37.h19] at hx41
        refine rr_if_ne 128 pf_244_100 (by decide) rx41 (fun c42 => ?_) (fun c42 => ?_)
        · have hn : ¬ (rK E s = 3 ∧ rW E s = 41) := fun z => by
            rw [bI_t z, mst1] at hx41
            have hz : x41 = s.flt := hx41
            omega
          rw [bI_f hn, mst0] at pS_M37
          refine rr_iconst pf_244_128 ?_
          refine rr_iret pf_244_129 pt_244 ⟨_, M37, rfl, rfl, q38, (by unfold rTestV; rw [if_neg (by omega), if_neg (by omega), if_neg (by omega)]), (by unfold rTest; rw [if_neg (by omega), if_neg (by omega), if_neg (by omega), if_neg hn]; exact pS_M37), (rq40)⟩
        · have hn : rK E s = 3 ∧ rW E s = 41 := Decidable.byContradiction (fun z => by
            rw [bI_f z, mst0] at hx41
            have hz : x41 = 1 := hx41
            omega)
          rw [bI_t hn, mst1] at pS_M37
          have hE1 := tkE_1 (tb := E.tb) hs.hi (show tkK E.tn E.tb s.i ≠ 0 from (by omega : rK E s ≠ 0))
          refine rr_aload_n pf_244_103 rfl ?_
          refine rr_iconst pf_244_104 ?_
          obtain ⟨M43, ⟨kq44, pS_M43, pf_M43⟩, hcM43⟩ := ct_RS_settle (xs := xs) (L := L) (d := d) (le := 1) (E := E) (s := (nxS E s)) (b := s.i) (by omega) hW q38.1 q38.2.1 pS_M37 (by unfold rg; omega)
          have q44 := qk_trm q38 kq44 (by decide)
          have rq46 := fz_tr rq40 pf_M43 (by decide)
          refine rr_cV1 pf_244_105 po_244 pc_9_380 (ws_228 hW) po_241 (by decide) rfl hcM43 ?_
          refine rr_aload_n pf_244_108 rfl ?_
          refine rr_dup pf_244_109 rfl ?_
          refine vr_getI q44 pf_244_110 po_244 pg_9_316 rfl (ws_228 hW) (by decide) (fun x47 hx47 rx47 => ?_)
          rw [pS_M43.h29] at hx47
          refine rr_iconst pf_244_113 ?_
          refine rr_isub pf_244_114 ?_
          refine vr_putI hW q44 pf_244_115 po_244 pg_9_316 (Or.inl rfl) rfl (ws_228 hW) (by decide) (by unfold rg; omega) (by decide) (fun M48 eM48 q49 => ?_)
          have rq50 := fz_up rq46 eM48 (by decide)
          have hsM48 := RS_pop pS_M43 eM48 (by omega) (stS_ne (s := nxS E s) (by decide) (show innL s.pl ≠ -1 by omega))
          refine rr_aload_n pf_244_118 rfl ?_
          refine rr_dup pf_244_119 rfl ?_
          refine vr_getI q49 pf_244_120 po_244 pg_9_338 rfl (ws_228 hW) (by decide) (fun x51 hx51 rx51 => ?_)
          rw [hsM48.h30] at hx51
          change x51 = s.op at hx51
          refine rr_iconst pf_244_123 ?_
          refine rr_isub pf_244_124 ?_
          refine vr_putI hW q49 pf_244_125 po_244 pg_9_338 (Or.inl rfl) rfl (ws_228 hW) (by decide) (by unfold rg; omega) (by decide) (fun M52 eM52 q53 => ?_)
          have rq54 := fz_up rq50 eM52 (by decide)
          have hsM52 := RS_op (k := -1) hsM48 eM52 (by show _ = s.op + (-1); omega) (by show -((tkE E.tn E.tb s.i : Nat) : Int) ≤ s.op + (-1) ∧ s.op + (-1) ≤ 8; omega)
          refine rr_iconst pf_244_128 ?_
          refine rr_iret pf_244_129 pt_244 ⟨_, M52, rfl, rfl, q53, (by unfold rTestV; rw [if_neg (by omega), if_neg (by omega), if_neg (by omega)]), (by unfold rTest; rw [if_neg (by omega), if_neg (by omega), if_neg (by omega), if_pos hn]; exact RS_b hsM52 (Nat.le_trans hsM52.hnb (by show _ ≤ tkE E.tn E.tb s.i; omega)) (by show tkE E.tn E.tb s.i ≤ 400; omega)), (rq54)⟩
      · refine rr_iconst pf_244_84 ?_
        refine rr_iret pf_244_85 pt_244 ⟨_, M0, rfl, rfl, q0, (by unfold rTestV; rw [if_neg (by omega), if_neg (by omega), if_pos (by omega)]), (by unfold rTest; rw [if_neg (by omega), if_neg (by omega), if_pos (by omega)]; exact hs), ((fz_rf [14, 15, 16, 17, 18, 19, 23, 26, 29, 30] M0))⟩
    · have hE2b := tkE_2 (tb := E.tb) hs.hi (show tkK E.tn E.tb s.i = 1 from (by omega : rK E s = 1)) (show 32 ≤ tkW E.tn E.tb s.i from (by omega : 32 ≤ rW E s))
      refine rr_aload_n pf_244_22 rfl ?_
      refine rr_iload_n pf_244_23 rfl ?_
      refine rr_if_eq 31 pf_244_24 (by decide) (by unfold rg; omega) (fun c55 => ?_) (fun c55 => ?_)
      · refine rr_iconst pf_244_31 ?_
        obtain ⟨M56, ⟨kq57, pS_M56, pf_M56⟩, hcM56⟩ := ct_RS_settle (xs := xs) (L := L) (d := d) (le := 1) (E := E) (s := s) (b := s.i) (by omega) hW q0.1 q0.2.1 hs (by unfold rg; omega)
        have q57 := qk_trm q0 kq57 (by decide)
        have rq59 := fz_tr (fz_rf [14, 15, 16, 17, 18, 19, 23, 26, 29, 30] M0) pf_M56 (by decide)
        refine rr_cV1 pf_244_32 po_244 pc_9_380 (ws_228 hW) po_241 (by decide) rfl hcM56 ?_
        refine rr_aload_n pf_244_35 rfl ?_
        refine rr_iload_n pf_244_36 rfl ?_
        refine rr_if_eq 45 pf_244_37 (by decide) (by unfold rg; omega) (fun c60 => ?_) (fun c60 => ?_)
        · refine rr_bipush pf_244_45 (by decide) ?_
          refine rr_aload_n pf_244_47 rfl ?_
          refine vr_getI q57 pf_244_48 po_244 pg_9_313 rfl (ws_228 hW) (by decide) (fun x61 hx61 rx61 => ?_)
          rw [pS_M56.h23] at hx61
          have hnb2 := pS_M56.hnb
          obtain ⟨M62, ⟨kq63, pS_M62, pf_M62⟩, hcM62⟩ := ct_RS_push (xs := xs) (L := L) (d := d) (a := 30) (b_ := x61) (E := E) (s := (stS 1 s)) (b := s.i) (by omega) hW q57.1 q57.2.1 pS_M56 (by omega) (by omega) (by omega)
          have q63 := qk_trm q57 kq63 (by decide)
          have rq65 := fz_tr rq59 pf_M62 (by decide)
          refine rr_cV2 pf_244_51 po_244 pc_9_341 (ws_228 hW) po_230 (by decide) rfl hcM62 ?_
          refine rr_aload_n pf_244_54 rfl ?_
          refine rr_iload_n pf_244_55 rfl ?_
          refine rr_if_eq 64 pf_244_56 (by decide) (by unfold rg; omega) (fun c66 => ?_) (fun c66 => ?_)
          · refine rr_bipush pf_244_64 (by decide) ?_
            refine rr_iconst pf_244_66 ?_
            obtain ⟨M67, ⟨kq68, pS_M67, pf_M67⟩, hcM67⟩ := ct_RS_emit (xs := xs) (L := L) (d := d) (a := 30) (b_ := 0) (E := E) (s := (psh 30 x61 (stS 1 s))) (b := s.i + 1) (by omega) hW q63.1 q63.2.1 pS_M62 (by omega) (by unfold rg; omega) (by unfold rg; omega)
            have q68 := qk_trm q63 kq68 (by decide)
            have rq70 := fz_tr rq65 pf_M67 (by decide)
            refine rr_cV2 pf_244_67 po_244 pc_9_322 (ws_228 hW) po_237 (by decide) rfl hcM67 ?_
            refine rr_aload_n pf_244_70 rfl ?_
            obtain ⟨M71, ⟨kq72, pS_M71, pf_M71⟩, hcM71⟩ := ct_RS_next (xs := xs) (L := L) (d := d) (E := E) (s := (emt 30 0 (psh 30 x61 (stS 1 s)))) (b := s.i + 1 + 1) (by omega) hW q68.1 q68.2.1 pS_M67
            have q72 := qk_trm q68 kq72 (by decide)
            have rq74 := fz_tr rq70 pf_M71 (by decide)
            refine rr_cV0 pf_244_71 po_244 pc_9_280 (ws_228 hW) po_222 (by decide) rfl hcM71 ?_
            refine rr_iconst pf_244_74 ?_
            refine rr_iret pf_244_75 pt_244 ⟨_, M71, rfl, rfl, q72, (by unfold rTestV; rw [if_neg (by omega), if_pos (by omega)]), (by unfold rTest; rw [if_neg (by omega), if_pos (by omega), ← hx61]; exact RS_b pS_M71 (Nat.le_trans pS_M71.hnb (by show _ ≤ tkE E.tn E.tb s.i; omega)) (by show tkE E.tn E.tb s.i ≤ 400; omega)), (rq74)⟩
          · exfalso; omega
        · exfalso; omega
      · exfalso; omega

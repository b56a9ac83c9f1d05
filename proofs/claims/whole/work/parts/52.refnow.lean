/-! the reference: steps as they are taken -/
theorem rs_rf (M : Nat → Nat → Int) : rs M M := fun _ _ _ => rfl
theorem rs_ne {M M2 M3 : Nat → Nat → Int} {a i : Nat} {x : Int} (h : rs M M2) (e : M3 = px_up M2 a i x) (ha : 228 ≠ a) : rs M M3 := fun j h8 hj => by rw [e, ask_ne ha]; exact h j h8 hj
theorem rs_up {M M2 M3 : Nat → Nat → Int} {i : Nat} {x : Int} (h : rs M M2) (e : M3 = px_up M2 228 i x) (ha : i = 8 ∨ i = 34 ∨ i = 38 ∨ i = 39 ∨ i = 40) : rs M M3 := fun j h8 hj => by rw [e, up_ne (by omega)]; exact h j h8 hj
theorem rs_q {sh : List (Nat × Nat)} {A : List Nat} {M M2 M3 : Nat → Nat → Int} (h : rs M M2) (q : px_qk sh A M2 M3) (ha : 228 ∉ A) : rs M M3 := fun j h8 hj => by rw [q.2.2 228 ha]; exact h j h8 hj
def obs : List Nat := [1, 8, 11, 13, 18, 20, 57, 61]
/-- the reference's fields that later calls show, but for those of X, are as they were -/
def rz (X : List Nat) (M M2 : Nat → Nat → Int) : Prop := ∀ j, j ∈ obs → j ∉ X → M2 228 j = M 228 j
theorem rz_rf (X : List Nat) (M : Nat → Nat → Int) : rz X M M := fun _ _ _ => rfl
theorem rz_ne {X : List Nat} {M M2 M3 : Nat → Nat → Int} {a i : Nat} {x : Int} (h : rz X M M2) (e : M3 = px_up M2 a i x) (ha : 228 ≠ a) : rz X M M3 := fun j h8 hj => by rw [e, ask_ne ha]; exact h j h8 hj
theorem rz_up {X : List Nat} {M M2 M3 : Nat → Nat → Int} {i : Nat} {x : Int} (h : rz X M M2) (e : M3 = px_up M2 228 i x) (ha : i ∉ obs ∨ i ∈ X) : rz X M M3 := fun j h8 hj => by
  rw [e, up_ne (fun z => by subst z; exact ha.elim (fun w => w h8) hj)]; exact h j h8 hj
theorem rz_q {X : List Nat} {sh : List (Nat × Nat)} {A : List Nat} {M M2 M3 : Nat → Nat → Int} (h : rz X M M2) (q : px_qk sh A M2 M3) (ha : 228 ∉ A) : rz X M M3 := fun j h8 hj => by rw [q.2.2 228 ha]; exact h j h8 hj
theorem rz_tr {X Y : List Nat} {M M2 M3 : Nat → Nat → Int} (h1 : rz X M M2) (h2 : rz Y M2 M3) (hs : ∀ j ∈ Y, j ∈ X) : rz X M M3 := fun j h hj => (h2 j h (fun z => hj (hs j z))).trans (h1 j h hj)
theorem obs_lt {j : Nat} (h : j ∈ obs) : j < 34 ∨ (34 < j ∧ j < 38) ∨ 40 < j := (show ∀ j ∈ obs, j < 34 ∨ (34 < j ∧ j < 38) ∨ 40 < j by decide) j h
theorem rz_rq {X : List Nat} {M M2 M3 : Nat → Nat → Int} (h1 : rz X M M2) (h2 : rq M2 M3) : rz X M M3 := fun j h hj => (h2 j (obs_lt h)).trans (h1 j h hj)
theorem rz_rs {X : List Nat} {M M2 M3 : Nat → Nat → Int} (h1 : rz X M M2) (h2 : rs M2 M3) (h8 : 8 ∈ X) : rz X M M3 := fun j h hj => (h2 j (fun z => hj (by rw [z]; exact h8)) (obs_lt h)).trans (h1 j h hj)
theorem ct_R_isWord1N {xs : Nat → Int} {L d : Nat} {sh : List (Nat × Nat)} {M : Nat → Nat → Int} (hd : 2 ≤ d) (hW : px_W0 <+: sh) (hF : px_Fx M) (hG : px_RG sh M) {v n : Int} (hv : rg v) (hn : M 230 0 = n) : px_Cl xs L d 185 [.ref 228, .int (iI v)] (sh, M) (some (.int (iI (bI (0 ≤ v ∧ v ≤ n - 1))))) (sh, M) := by
  subst hn
  exact ct_R_isWord1 hd hW hF hG hv
theorem ct_R_isLawN {xs : Nat → Int} {L d : Nat} {sh : List (Nat × Nat)} {M : Nat → Nat → Int} (hd : 2 ≤ d) (hW : px_W0 <+: sh) (hF : px_Fx M) (hG : px_RG sh M) {v n : Int} (hv : rg v) (hn : M 230 3 = n) : px_Cl xs L d 247 [.ref 228, .int (iI v)] (sh, M) (some (.int (iI (bI (v = -1 ∨ 0 ≤ v ∧ v ≤ n - 1))))) (sh, M) := by
  subst hn
  exact ct_R_isLaw hd hW hF hG hv
theorem tl_q {sh : List (Nat × Nat)} {A : List Nat} {M M2 : Nat → Nat → Int} {tl : sp_T} (h : tlR M tl) (q : px_qk sh A M M2) (h8 : M2 228 8 = M 228 8) (h3 : 233 ∉ A) (h4 : 234 ∉ A) : tlR M2 tl := tlR_eq h h8 (q.2.2 233 h3) (q.2.2 234 h4)
theorem ct_R_preachNow {xs : Nat → Int} {L d : Nat} {sh : List (Nat × Nat)} {M0 : Nat → Nat → Int} (hd : 12 ≤ d) (hW : px_W0 <+: sh) (hF : px_Fx M0) (hG : px_RG sh M0)  (hρ : sp_ok (rr_ M0)) {lw : List sp_C} (hlw : px_lwR M0 lw) (hord : M0 228 20 = 0) {tl : sp_T} (htl : tlR M0 tl) {w : Int} (hw0 : rg w) : ∃ v M, (px_qk sh [228, 230, 233, 234, 246, 248, 249, 250] M0 M ∧ (v = sp_preV lw (rr_ M0) w) ∧ (rr_ M = sp_preW lw (rr_ M0) w) ∧ (r9 M0 M) ∧ (tlR M (if 0 ≤ v then tpush tl (0, rr_ M0) else tl)) ∧ (rs M0 M)) ∧ px_Cl xs L d 249 [.ref 228, .int (iI (w))] (sh, M0) (some (.int (iI v))) (sh, M) := by
  obtain ⟨d, rfl⟩ : ∃ e, d = e + 1 := ⟨d - 1, by omega⟩
  have q0 : px_qk sh [228, 230, 233, 234, 246, 248, 249, 250] M0 M0 := ⟨hF, hG, eo_rf⟩
  refine vc_i (Nat.le_of_ble_eq_true rfl) ?_
  show px_R xs L d 249 (0, [.ref 228, .int (iI (w))], [], (sh, M0)) (fun r h' => ∃ v M', r = some (.int (iI v)) ∧ h' = (sh, M') ∧ px_qk sh [228, 230, 233, 234, 246, 248, 249, 250] M0 M' ∧ v = sp_preV lw (rr_ M0) w ∧ rr_ M' = sp_preW lw (rr_ M0) w ∧ r9 M0 M' ∧ tlR M' (if 0 ≤ v then tpush tl (0, rr_ M0) else tl) ∧ rs M0 M')
  refine rr_aload_n pf_249_0 rfl ?_
  refine rr_iload_n pf_249_1 rfl ?_
  refine rr_cV1 pf_249_2 po_249 pc_9_216 (ws_228 hW) po_185 (by decide) rfl (ct_R_isWord1N (n := rr_ M0 0) (by omega) hW q0.1 q0.2.1 hw0 (rr_at (by omega))) ?_
  refine rr_ifb_ne 11 pf_249_5 (by decide) (fun c1 => ?_) (fun c1 => ?_)
  · have h0 := hρ.1
    refine rr_aload_n pf_249_11 rfl ?_
    refine rr_iload_n pf_249_12 rfl ?_
    obtain ⟨M2, ⟨kq3, pf_M2⟩, hcM2⟩ := ct_R_isBarred (xs := xs) (L := L) (d := d) (w := (w).toNat) (lw := lw) (by omega) hW q0.1 q0.2.1 hρ hlw hord (by omega)
    rw [show (((w).toNat : Nat) : Int) = w by omega] at hcM2
    have q3 := qk_trm q0 kq3 (by decide)
    have rq5 := rs_tr (rs_rf M0) (rs_rq pf_M2)
    have e6 : M2 230 = M0 230 := (kq3.2.2 230 (by decide)).trans (rfl : M0 230 = M0 230)
    refine rr_cV1 pf_249_13 po_249 pc_9_221 (ws_228 hW) po_186 (by decide) rfl hcM2 ?_
    
    refine rr_ifb_eq 22 pf_249_16 (by decide) (fun c7 => ?_) (fun c7 => ?_)
    · have hbar := c7
      refine rr_aload_n pf_249_22 rfl ?_
      refine rr_iconst pf_249_23 ?_
      obtain ⟨M8, ⟨kq9, pt_M8, pf_M8⟩, hcM8⟩ := ct_R_remember (xs := xs) (L := L) (d := d) (kd := 0) (tl := tl) (by omega) hW q3.1 q3.2.1 (tl_q htl kq3 (pf_M2 8 (by decide)) (by decide) (by decide)) (by unfold rg; omega)
      have q9 := qk_trm q3 kq9 (by decide)
      rw [rr_eq e6] at pt_M8
      have rq11 := rs_tr rq5 pf_M8
      have e12 : M8 230 = M0 230 := (kq9.2.2 230 (by decide)).trans e6
      refine rr_cV1 pf_249_24 po_249 pc_9_478 (ws_228 hW) po_250 (by decide) rfl hcM8 ?_
      
      refine rr_aload_n pf_249_27 rfl ?_
      have h0 := hρ.1
      refine rr_iload_n pf_249_28 rfl ?_
      obtain ⟨r15, M13, ⟨kq14, pv_M13, pr_M13, p9_M13, pf_M13⟩, hcM13⟩ := ct_R_preachIt (xs := xs) (L := L) (d := d) (w := (w).toNat) (lw := lw) (by omega) hW q9.1 q9.2.1 (by rw [rr_eq e12]; exact hρ) (lwR_eq e12 hlw) ((rq11 20 (by decide) (by decide)).trans hord) (by omega)
      rw [show (((w).toNat : Nat) : Int) = w by omega] at hcM13
      have q14 := qk_trm q9 kq14 (by decide)
      rw [rr_eq e12] at pv_M13
      rw [rr_eq e12] at pr_M13
      have rq16 := rs_tr rq11 (rs_rq pf_M13)
      refine rr_cV1 pf_249_29 po_249 pc_9_481 (ws_228 hW) po_252 (by decide) rfl hcM13 ?_
      have hAb := sp_preA_b (lw := lw) hρ (w := w.toNat) (by omega) 16 (by omega)
      refine rr_iret pf_249_32 pt_249 ⟨_, M13, rfl, rfl, q14, (by rw [pv_M13]; unfold sp_preV; rw [if_pos (by omega), if_neg hbar]), (by rw [pr_M13]; unfold sp_preW; rw [show sp_preV lw (rr_ M0) w = sp_preA lw (rr_ M0) w.toNat 16 by unfold sp_preV; rw [if_pos (by omega), if_neg hbar], if_pos (by omega)]), (r9_tr (r9_eq e12) p9_M13), (by rw [if_pos (by omega)]; exact tl_q pt_M8 kq14 (pf_M13 8 (by decide)) (by decide) (by decide)), (rq16)⟩
    · have hbar := c7
      refine rr_bipush pf_249_19 (by decide) ?_
      refine rr_iret pf_249_21 pt_249 ⟨_, M2, rfl, rfl, q3, (by unfold sp_preV; rw [if_pos (by omega), if_pos hbar]), (by unfold sp_preW; rw [show sp_preV lw (rr_ M0) w = -3 by unfold sp_preV; rw [if_pos (by omega), if_pos hbar], if_neg (by omega)]; exact rr_eq e6), (r9_eq e6), (by rw [if_neg (by omega)]; exact tl_q htl kq3 (pf_M2 8 (by decide)) (by decide) (by decide)), (rq5)⟩
  · refine rr_bipush pf_249_8 (by decide) ?_
    refine rr_iret pf_249_10 pt_249 ⟨_, M0, rfl, rfl, q0, (by unfold sp_preV; rw [if_neg (by omega)]), (by unfold sp_preW; rw [show sp_preV lw (rr_ M0) w = -2 by unfold sp_preV; rw [if_neg (by omega)], if_neg (by omega)]), (r9_eq (rfl : M0 230 = M0 230)), (by rw [if_neg (by omega)]; exact htl), ((rs_rf M0))⟩
theorem ct_R_scrapeNow {xs : Nat → Int} {L d : Nat} {sh : List (Nat × Nat)} {M0 : Nat → Nat → Int} (hd : 12 ≤ d) (hW : px_W0 <+: sh) (hF : px_Fx M0) (hG : px_RG sh M0)  (hρ : sp_ok (rr_ M0)) {lw : List sp_C} (hlw : px_lwR M0 lw) (hord : M0 228 20 = 0) {tl : sp_T} (htl : tlR M0 tl) {p h : Int} (hp0 : rg p) (hh0 : rg h) : ∃ v M, (px_qk sh [228, 230, 233, 234, 246, 248, 249, 250] M0 M ∧ (v = sp_scrV (rr_ M0) p h) ∧ (rr_ M = sp_scrR (rr_ M0) p h) ∧ (r9 M0 M) ∧ (tlR M (if 0 ≤ v then tpush tl (1, rr_ M0) else tl)) ∧ (rs M0 M)) ∧ px_Cl xs L d 254 [.ref 228, .int (iI (p)), .int (iI (h))] (sh, M0) (some (.int (iI v))) (sh, M) := by
  obtain ⟨d, rfl⟩ : ∃ e, d = e + 1 := ⟨d - 1, by omega⟩
  have q0 : px_qk sh [228, 230, 233, 234, 246, 248, 249, 250] M0 M0 := ⟨hF, hG, eo_rf⟩
  refine vc_i (Nat.le_of_ble_eq_true rfl) ?_
  show px_R xs L d 254 (0, [.ref 228, .int (iI (p)), .int (iI (h))], [], (sh, M0)) (fun r h' => ∃ v M', r = some (.int (iI v)) ∧ h' = (sh, M') ∧ px_qk sh [228, 230, 233, 234, 246, 248, 249, 250] M0 M' ∧ v = sp_scrV (rr_ M0) p h ∧ rr_ M' = sp_scrR (rr_ M0) p h ∧ r9 M0 M' ∧ tlR M' (if 0 ≤ v then tpush tl (1, rr_ M0) else tl) ∧ rs M0 M')
  refine rr_iload_n pf_254_0 rfl ?_
  refine rr_cS1 pf_254_1 po_254 pc_9_228 (by decide) rfl (ct_R_isPane (by omega) hp0) ?_
  refine rr_ifb_eq 14 pf_254_4 (by decide) (fun c1 => ?_) (fun c1 => ?_)
  · refine rr_iconst pf_254_14 ?_
    refine rr_iret pf_254_15 pt_254 ⟨_, M0, rfl, rfl, q0, (by unfold sp_scrV; rw [if_neg (by omega)]), (by unfold sp_scrR; rw [show sp_scrV (rr_ M0) p h = -1 by unfold sp_scrV; rw [if_neg (by omega)], if_neg (by omega)]), (r9_eq (rfl : M0 230 = M0 230)), (by rw [if_neg (by omega)]; exact htl), ((rs_rf M0))⟩
  · refine rr_iload_n pf_254_7 rfl ?_
    refine rr_cS1 pf_254_8 po_254 pc_9_210 (by decide) rfl (ct_R_isHue (by omega) hh0) ?_
    refine rr_ifb_ne 16 pf_254_11 (by decide) (fun c2 => ?_) (fun c2 => ?_)
    · refine rr_aload_n pf_254_16 rfl ?_
      refine rr_getR pf_254_17 po_254 pg_9_13 rfl (ws_228 hW) (by decide) (wr_228_3 q0.1) ?_
      refine rr_bipush pf_254_20 (by decide) ?_
      refine rr_iconst pf_254_22 ?_
      refine rr_iload_n pf_254_23 rfl ?_
      refine rr_imul pf_254_24 ?_
      refine rr_iadd pf_254_25 ?_
      refine rr_iload_n pf_254_26 rfl ?_
      refine rr_iadd pf_254_27 ?_
      refine vr_iald (j := 9 + (p * 3 + h).toNat) q0 pf_254_28 (ws_230 hW) (by omega) (by omega) (by decide) (fun x3 hx3 rx3 => ?_)
      rw [rr_at (M := M0) (i := 9 + (p * 3 + h).toNat) (by omega)] at hx3
      have hhb := hρ.2.2.2.2.2.2.2.2.2.1 (p * 3 + h).toNat (by omega)
      refine rr_if_ne 35 pf_254_29 (by decide) rx3 (fun c4 => ?_) (fun c4 => ?_)
      · refine rr_aload_n pf_254_35 rfl ?_
        refine rr_iconst pf_254_36 ?_
        obtain ⟨M5, ⟨kq6, pt_M5, pf_M5⟩, hcM5⟩ := ct_R_remember (xs := xs) (L := L) (d := d) (kd := 1) (tl := tl) (by omega) hW q0.1 q0.2.1 htl (by unfold rg; omega)
        have q6 := qk_trm q0 kq6 (by decide)
        have rq8 := rs_tr (rs_rf M0) pf_M5
        have e9 : M5 230 = M0 230 := (kq6.2.2 230 (by decide)).trans (rfl : M0 230 = M0 230)
        refine rr_cV1 pf_254_37 po_254 pc_9_478 (ws_228 hW) po_250 (by decide) rfl hcM5 ?_
        
        refine rr_aload_n pf_254_40 rfl ?_
        refine rr_getR pf_254_41 po_254 pg_9_13 rfl (ws_228 hW) (by decide) (wr_228_3 q6.1) ?_
        refine rr_bipush pf_254_44 (by decide) ?_
        refine rr_iconst pf_254_46 ?_
        refine rr_iload_n pf_254_47 rfl ?_
        refine rr_imul pf_254_48 ?_
        refine rr_iadd pf_254_49 ?_
        refine rr_iload_n pf_254_50 rfl ?_
        refine rr_iadd pf_254_51 ?_
        refine rr_dup2 pf_254_52 rfl rfl ?_
        refine vr_iald (j := 9 + (p * 3 + h).toNat) q6 pf_254_53 (ws_230 hW) (by omega) (by omega) (by decide) (fun x10 hx10 rx10 => ?_)
        rw [e9] at hx10
        rw [rr_at (M := M0) (i := 9 + (p * 3 + h).toNat) (by omega)] at hx10
        have hhb := hρ.2.2.2.2.2.2.2.2.2.1 (p * 3 + h).toNat (by omega)
        refine rr_iconst pf_254_54 ?_
        refine rr_isub pf_254_55 ?_
        refine vr_iast (j := 9 + (p * 3 + h).toNat) hW q6 pf_254_56 (ws_230 hW) (by omega) (by omega) (by decide) (by unfold rg; omega) (by decide) (fun M11 eM11 q12 => ?_)
        have rq13 := rs_ne rq8 eM11 (by decide)
        refine rr_aload_n pf_254_57 rfl ?_
        refine rr_getR pf_254_58 po_254 pg_9_13 rfl (ws_228 hW) (by decide) (wr_228_3 q12.1) ?_
        refine rr_bipush pf_254_61 (by decide) ?_
        refine rr_iconst pf_254_63 ?_
        refine rr_iload_n pf_254_64 rfl ?_
        refine rr_imul pf_254_65 ?_
        refine rr_iadd pf_254_66 ?_
        refine rr_iload_n pf_254_67 rfl ?_
        refine rr_iadd pf_254_68 ?_
        refine vr_iald (j := 9 + (p * 3 + h).toNat) q12 pf_254_69 (ws_230 hW) (by omega) (by omega) (by decide) (fun x14 hx14 rx14 => ?_)
        rw [eM11, up_s] at hx14
        refine rr_iret pf_254_70 pt_254 ⟨_, M11, rfl, rfl, q12, (by unfold sp_scrV; rw [if_pos (by omega), if_neg (by omega)]; omega), (by unfold sp_scrR; rw [show sp_scrV (rr_ M0) p h = rr_ M0 (9 + (p * 3 + h).toNat) - 1 by unfold sp_scrV; rw [if_pos (by omega), if_neg (by omega)], if_pos (by omega), rr_w (rr_eq e9) eM11 (by omega)]; congr 1; omega), (r9_up (r9_eq e9) eM11 (by omega)), (by rw [if_pos (by omega)]; exact tlR_eq pt_M5 (by rw [eM11, ask_ne (by decide)]) (by rw [eM11, ask_ne (by decide)]) (by rw [eM11, ask_ne (by decide)])), (rq13)⟩
      · refine rr_bipush pf_254_32 (by decide) ?_
        refine rr_iret pf_254_34 pt_254 ⟨_, M0, rfl, rfl, q0, (by unfold sp_scrV; rw [if_pos (by omega), if_pos (by omega)]), (by unfold sp_scrR; rw [show sp_scrV (rr_ M0) p h = -3 by unfold sp_scrV; rw [if_pos (by omega), if_pos (by omega)], if_neg (by omega)]), (r9_eq (rfl : M0 230 = M0 230)), (by rw [if_neg (by omega)]; exact htl), ((rs_rf M0))⟩
    · refine rr_iconst pf_254_14 ?_
      refine rr_iret pf_254_15 pt_254 ⟨_, M0, rfl, rfl, q0, (by unfold sp_scrV; rw [if_neg (by omega)]), (by unfold sp_scrR; rw [show sp_scrV (rr_ M0) p h = -1 by unfold sp_scrV; rw [if_neg (by omega)], if_neg (by omega)]), (r9_eq (rfl : M0 230 = M0 230)), (by rw [if_neg (by omega)]; exact htl), ((rs_rf M0))⟩
theorem ct_R_walkNow {xs : Nat → Int} {L d : Nat} {sh : List (Nat × Nat)} {M0 : Nat → Nat → Int} (hd : 12 ≤ d) (hW : px_W0 <+: sh) (hF : px_Fx M0) (hG : px_RG sh M0)  (hρ : sp_ok (rr_ M0)) {lw : List sp_C} (hlw : px_lwR M0 lw) (hord : M0 228 20 = 0) {tl : sp_T} (htl : tlR M0 tl) {p : Int} (hp0 : rg p) : ∃ v M, (px_qk sh [228, 230, 233, 234, 246, 248, 249, 250] M0 M ∧ (v = sp_walV (rr_ M0) p) ∧ (rr_ M = sp_walR (rr_ M0) p) ∧ (r9 M0 M) ∧ (tlR M (if 0 ≤ v then tpush tl (2, rr_ M0) else tl)) ∧ (rs M0 M)) ∧ px_Cl xs L d 256 [.ref 228, .int (iI (p))] (sh, M0) (some (.int (iI v))) (sh, M) := by
  obtain ⟨d, rfl⟩ : ∃ e, d = e + 1 := ⟨d - 1, by omega⟩
  have q0 : px_qk sh [228, 230, 233, 234, 246, 248, 249, 250] M0 M0 := ⟨hF, hG, eo_rf⟩
  refine vc_i (Nat.le_of_ble_eq_true rfl) ?_
  show px_R xs L d 256 (0, [.ref 228, .int (iI (p)), px_jk], [], (sh, M0)) (fun r h' => ∃ v M', r = some (.int (iI v)) ∧ h' = (sh, M') ∧ px_qk sh [228, 230, 233, 234, 246, 248, 249, 250] M0 M' ∧ v = sp_walV (rr_ M0) p ∧ rr_ M' = sp_walR (rr_ M0) p ∧ r9 M0 M' ∧ tlR M' (if 0 ≤ v then tpush tl (2, rr_ M0) else tl) ∧ rs M0 M')
  refine rr_aload_n pf_256_0 rfl ?_
  refine rr_getR pf_256_1 po_256 pg_9_13 rfl (ws_228 hW) (by decide) (wr_228_3 q0.1) ?_
  refine rr_bipush pf_256_4 (by decide) ?_
  refine vr_iald (j := 8) q0 pf_256_6 (ws_230 hW) (by omega) (by omega) (by decide) (fun x1 hx1 rx1 => ?_)
  rw [rr_at (M := M0) (i := 8) (by omega)] at hx1
  have hpul := hρ.2.2.2.2.2.2.2.2.1
  refine rr_istore_n pf_256_7 (fun y => [.ref 228, .int (iI (p)), .int (iI (y))]) (Nat.le_of_ble_eq_true rfl) (fun _ => rfl) (fun y2 hy2 => ?_)
  have ry2 : rg y2 := hy2 ▸ rx1
  refine rr_iload_n pf_256_8 rfl ?_
  refine rr_cS1 pf_256_9 po_256 pc_9_228 (by decide) rfl (ct_R_isPane (by omega) hp0) ?_
  refine rr_ifb_eq 20 pf_256_12 (by decide) (fun c3 => ?_) (fun c3 => ?_)
  · refine rr_iconst pf_256_20 ?_
    refine rr_iret pf_256_21 pt_256 ⟨_, M0, rfl, rfl, q0, (by unfold sp_walV; rw [if_neg (by omega)]), (by unfold sp_walR; rw [if_neg (by omega)]), (r9_eq (rfl : M0 230 = M0 230)), (by rw [if_neg (by omega)]; exact htl), ((rs_rf M0))⟩
  · refine rr_iload_n pf_256_15 rfl ?_
    refine rr_iload_n pf_256_16 rfl ?_
    refine rr_icmp_ne 22 pf_256_17 (by decide) hp0 ry2 (fun c4 => ?_) (fun c4 => ?_)
    · refine rr_aload_n pf_256_22 rfl ?_
      refine rr_iconst pf_256_23 ?_
      obtain ⟨M5, ⟨kq6, pt_M5, pf_M5⟩, hcM5⟩ := ct_R_remember (xs := xs) (L := L) (d := d) (kd := 2) (tl := tl) (by omega) hW q0.1 q0.2.1 htl (by unfold rg; omega)
      have q6 := qk_trm q0 kq6 (by decide)
      have rq8 := rs_tr (rs_rf M0) pf_M5
      have e9 : M5 230 = M0 230 := (kq6.2.2 230 (by decide)).trans (rfl : M0 230 = M0 230)
      refine rr_cV1 pf_256_24 po_256 pc_9_478 (ws_228 hW) po_250 (by decide) rfl hcM5 ?_
      
      refine rr_aload_n pf_256_27 rfl ?_
      refine rr_getR pf_256_28 po_256 pg_9_13 rfl (ws_228 hW) (by decide) (wr_228_3 q6.1) ?_
      refine rr_bipush pf_256_31 (by decide) ?_
      refine rr_iload_n pf_256_33 rfl ?_
      refine vr_iast (j := 8) hW q6 pf_256_34 (ws_230 hW) (by omega) (by omega) (by decide) hp0 (by decide) (fun M10 eM10 q11 => ?_)
      have rq12 := rs_ne rq8 eM10 (by decide)
      refine rr_iload_n pf_256_35 rfl ?_
      refine rr_iret pf_256_36 pt_256 ⟨_, M10, rfl, rfl, q11, (by unfold sp_walV; rw [if_pos (by omega)]; omega), (by unfold sp_walR; rw [if_pos (by omega), rr_w (rr_eq e9) eM10 (by omega)]), (r9_up (r9_eq e9) eM10 (by omega)), (by rw [if_pos (by omega)]; exact tlR_eq pt_M5 (by rw [eM10, ask_ne (by decide)]) (by rw [eM10, ask_ne (by decide)]) (by rw [eM10, ask_ne (by decide)])), (rq12)⟩
    · refine rr_iconst pf_256_20 ?_
      refine rr_iret pf_256_21 pt_256 ⟨_, M0, rfl, rfl, q0, (by unfold sp_walV; rw [if_neg (by omega)]), (by unfold sp_walR; rw [if_neg (by omega)]), (r9_eq (rfl : M0 230 = M0 230)), (by rw [if_neg (by omega)]; exact htl), ((rs_rf M0))⟩
theorem ct_R_sitNow {xs : Nat → Int} {L d : Nat} {sh : List (Nat × Nat)} {M0 : Nat → Nat → Int} (hd : 12 ≤ d) (hW : px_W0 <+: sh) (hF : px_Fx M0) (hG : px_RG sh M0)  (hρ : sp_ok (rr_ M0)) {lw : List sp_C} (hlw : px_lwR M0 lw) (hord : M0 228 20 = 0) {tl : sp_T} (htl : tlR M0 tl) {l s : Int} (hl0 : rg l) (hs0 : rg s) : ∃ v M, (px_qk sh [228, 230, 233, 234, 246, 248, 249, 250] M0 M ∧ (v = sp_sitV (rr_ M0) l s) ∧ (rr_ M = sp_sitR (rr_ M0) l s) ∧ (r9 M0 M) ∧ (tlR M (if 0 ≤ v then tpush tl (3, rr_ M0) else tl)) ∧ (rs M0 M)) ∧ px_Cl xs L d 258 [.ref 228, .int (iI (l)), .int (iI (s))] (sh, M0) (some (.int (iI v))) (sh, M) := by
  obtain ⟨d, rfl⟩ : ∃ e, d = e + 1 := ⟨d - 1, by omega⟩
  have q0 : px_qk sh [228, 230, 233, 234, 246, 248, 249, 250] M0 M0 := ⟨hF, hG, eo_rf⟩
  refine vc_i (Nat.le_of_ble_eq_true rfl) ?_
  show px_R xs L d 258 (0, [.ref 228, .int (iI (l)), .int (iI (s)), px_jk], [], (sh, M0)) (fun r h' => ∃ v M', r = some (.int (iI v)) ∧ h' = (sh, M') ∧ px_qk sh [228, 230, 233, 234, 246, 248, 249, 250] M0 M' ∧ v = sp_sitV (rr_ M0) l s ∧ rr_ M' = sp_sitR (rr_ M0) l s ∧ r9 M0 M' ∧ tlR M' (if 0 ≤ v then tpush tl (3, rr_ M0) else tl) ∧ rs M0 M')
  refine rr_iload_n pf_258_0 rfl ?_
  refine rr_cS1 pf_258_1 po_258 pc_9_240 (by decide) rfl (ct_R_isSeat (by omega) hs0) ?_
  refine rr_ifb_ne 9 pf_258_4 (by decide) (fun c1 => ?_) (fun c1 => ?_)
  · refine rr_aload_n pf_258_9 rfl ?_
    refine rr_iload_n pf_258_10 rfl ?_
    refine rr_cV1 pf_258_11 po_258 pc_9_248 (ws_228 hW) po_192 (by decide) rfl (ct_R_isListenerN (n := rr_ M0 1) (by omega) hW q0.1 q0.2.1 hl0 (rr_at (by omega))) ?_
    refine rr_ifb_ne 20 pf_258_14 (by decide) (fun c2 => ?_) (fun c2 => ?_)
    · have h1 := hρ.2.1
      refine rr_aload_n pf_258_20 rfl ?_
      refine rr_iload_n pf_258_21 rfl ?_
      obtain ⟨r5, M3, ⟨kq4, pv_M3, pb_M3⟩, hcM3⟩ := ct_R_onSeat (xs := xs) (L := L) (d := d) (s := s) (by omega) hW q0.1 q0.2.1 hρ hs0
      obtain rfl := qk_nil kq4
      refine rr_cV1 pf_258_22 po_258 pc_9_245 (ws_228 hW) po_205 (by decide) rfl hcM3 ?_
      have hpb := pb_M3
      refine rr_iconst pf_258_25 ?_
      refine rr_icmp_eq 32 pf_258_26 (by decide) (by unfold rg; omega) (by unfold rg; omega) (fun c6 => ?_) (fun c6 => ?_)
      · have hTK := pv_M3.mp (by omega)
        refine rr_aload_n pf_258_32 rfl ?_
        refine rr_iconst pf_258_33 ?_
        obtain ⟨M7, ⟨kq8, pt_M7, pf_M7⟩, hcM7⟩ := ct_R_remember (xs := xs) (L := L) (d := d) (kd := 3) (tl := tl) (by omega) hW q0.1 q0.2.1 htl (by unfold rg; omega)
        have q8 := qk_trm q0 kq8 (by decide)
        have rq10 := rs_tr (rs_rf M0) pf_M7
        have e11 : M7 230 = M0 230 := (kq8.2.2 230 (by decide)).trans (rfl : M0 230 = M0 230)
        refine rr_cV1 pf_258_34 po_258 pc_9_478 (ws_228 hW) po_250 (by decide) rfl hcM7 ?_
        
        refine rr_aload_n pf_258_37 rfl ?_
        refine rr_getR pf_258_38 po_258 pg_9_13 rfl (ws_228 hW) (by decide) (wr_228_3 q8.1) ?_
        refine rr_bipush pf_258_41 (by decide) ?_
        refine rr_iload_n pf_258_43 rfl ?_
        refine rr_iadd pf_258_44 ?_
        refine vr_iald (j := 57 + l.toNat) q8 pf_258_45 (ws_230 hW) (by omega) (by omega) (by decide) (fun x12 hx12 rx12 => ?_)
        rw [e11] at hx12
        rw [rr_at (M := M0) (i := 57 + l.toNat) (by omega)] at hx12
        have hsb := sp_seat_b hρ (l := l.toNat) (by omega)
        refine rr_istore_n pf_258_46 (fun y => [.ref 228, .int (iI (l)), .int (iI (s)), .int (iI (y))]) (Nat.le_of_ble_eq_true rfl) (fun _ => rfl) (fun y13 hy13 => ?_)
        have ry13 : rg y13 := hy13 ▸ rx12
        refine rr_aload_n pf_258_47 rfl ?_
        refine rr_getR pf_258_48 po_258 pg_9_13 rfl (ws_228 hW) (by decide) (wr_228_3 q8.1) ?_
        refine rr_bipush pf_258_51 (by decide) ?_
        refine rr_iload_n pf_258_53 rfl ?_
        refine rr_iadd pf_258_54 ?_
        refine rr_iload_n pf_258_55 rfl ?_
        refine vr_iast (j := 57 + l.toNat) hW q8 pf_258_56 (ws_230 hW) (by omega) (by omega) (by decide) hs0 (by decide) (fun M14 eM14 q15 => ?_)
        have rq16 := rs_ne rq10 eM14 (by decide)
        refine rr_iload_n pf_258_57 rfl ?_
        refine rr_iret pf_258_58 pt_258 ⟨_, M14, rfl, rfl, q15, (by unfold sp_sitV; rw [if_pos (by omega), if_pos (by omega), if_neg hTK]; omega), (by unfold sp_sitR; rw [show sp_sitV (rr_ M0) l s = rr_ M0 (57 + l.toNat) by unfold sp_sitV; rw [if_pos (by omega), if_pos (by omega), if_neg hTK], if_pos (by omega), rr_w (rr_eq e11) eM14 (by omega)]), (r9_up (r9_eq e11) eM14 (by omega)), (by rw [if_pos (by omega)]; exact tlR_eq pt_M7 (by rw [eM14, ask_ne (by decide)]) (by rw [eM14, ask_ne (by decide)]) (by rw [eM14, ask_ne (by decide)])), (rq16)⟩
      · have hTK : sp_taken (rr_ M0) s (rr_ M0 1).toNat = true := Decidable.byContradiction (fun z => by have := pv_M3.mpr z; omega)
        refine rr_bipush pf_258_29 (by decide) ?_
        refine rr_iret pf_258_31 pt_258 ⟨_, M0, rfl, rfl, q0, (by unfold sp_sitV; rw [if_pos (by omega), if_pos (by omega), if_pos hTK]), (by unfold sp_sitR; rw [show sp_sitV (rr_ M0) l s = -3 by unfold sp_sitV; rw [if_pos (by omega), if_pos (by omega), if_pos hTK], if_neg (by omega)]), (r9_eq (rfl : M0 230 = M0 230)), (by rw [if_neg (by omega)]; exact htl), ((rs_rf M0))⟩
    · refine rr_bipush pf_258_17 (by decide) ?_
      refine rr_iret pf_258_19 pt_258 ⟨_, M0, rfl, rfl, q0, (by unfold sp_sitV; rw [if_pos (by omega), if_neg (by omega)]), (by unfold sp_sitR; rw [show sp_sitV (rr_ M0) l s = -2 by unfold sp_sitV; rw [if_pos (by omega), if_neg (by omega)], if_neg (by omega)]), (r9_eq (rfl : M0 230 = M0 230)), (by rw [if_neg (by omega)]; exact htl), ((rs_rf M0))⟩
  · refine rr_iconst pf_258_7 ?_
    refine rr_iret pf_258_8 pt_258 ⟨_, M0, rfl, rfl, q0, (by unfold sp_sitV; rw [if_neg (by omega)]), (by unfold sp_sitR; rw [show sp_sitV (rr_ M0) l s = -1 by unfold sp_sitV; rw [if_neg (by omega)], if_neg (by omega)]), (r9_eq (rfl : M0 230 = M0 230)), (by rw [if_neg (by omega)]; exact htl), ((rs_rf M0))⟩
theorem ct_R_passNow {xs : Nat → Int} {L d : Nat} {sh : List (Nat × Nat)} {M0 : Nat → Nat → Int} (hd : 12 ≤ d) (hW : px_W0 <+: sh) (hF : px_Fx M0) (hG : px_RG sh M0)  (hρ : sp_ok (rr_ M0)) {lw : List sp_C} (hlw : px_lwR M0 lw) (hord : M0 228 20 = 0) {tl : sp_T} (htl : tlR M0 tl) (h999 : rr_ M0 5 ≤ 999) : ∃ v M, (px_qk sh [228, 230, 233, 234, 246, 248, 249, 250] M0 M ∧ (v = sp_pasV (rr_ M0)) ∧ (rr_ M = sp_pasW lw (rr_ M0)) ∧ (r9 M0 M) ∧ (tlR M (if 0 ≤ v then tpush tl (4, rr_ M0) else tl)) ∧ (rs M0 M)) ∧ px_Cl xs L d 260 [.ref 228] (sh, M0) (some (.int (iI v))) (sh, M) := by
  obtain ⟨d, rfl⟩ : ∃ e, d = e + 1 := ⟨d - 1, by omega⟩
  have q0 : px_qk sh [228, 230, 233, 234, 246, 248, 249, 250] M0 M0 := ⟨hF, hG, eo_rf⟩
  refine vc_i (Nat.le_of_ble_eq_true rfl) ?_
  show px_R xs L d 260 (0, [.ref 228], [], (sh, M0)) (fun r h' => ∃ v M', r = some (.int (iI v)) ∧ h' = (sh, M') ∧ px_qk sh [228, 230, 233, 234, 246, 248, 249, 250] M0 M' ∧ v = sp_pasV (rr_ M0) ∧ rr_ M' = sp_pasW lw (rr_ M0) ∧ r9 M0 M' ∧ tlR M' (if 0 ≤ v then tpush tl (4, rr_ M0) else tl) ∧ rs M0 M')
  refine rr_aload_n pf_260_0 rfl ?_
  refine rr_getR pf_260_1 po_260 pg_9_13 rfl (ws_228 hW) (by decide) (wr_228_3 q0.1) ?_
  refine rr_iconst pf_260_4 ?_
  refine vr_iald (j := 5) q0 pf_260_5 (ws_230 hW) (by omega) (by omega) (by decide) (fun x1 hx1 rx1 => ?_)
  rw [rr_at (M := M0) (i := 5) (by omega)] at hx1
  have h5 := hρ.2.2.2.2.2.1
  refine rr_sipush pf_260_6 (by decide) ?_
  refine rr_icmp_ne 15 pf_260_9 (by decide) rx1 (by unfold rg; omega) (fun c2 => ?_) (fun c2 => ?_)
  · refine rr_aload_n pf_260_15 rfl ?_
    refine rr_iconst pf_260_16 ?_
    obtain ⟨M3, ⟨kq4, pt_M3, pf_M3⟩, hcM3⟩ := ct_R_remember (xs := xs) (L := L) (d := d) (kd := 4) (tl := tl) (by omega) hW q0.1 q0.2.1 htl (by unfold rg; omega)
    have q4 := qk_trm q0 kq4 (by decide)
    have rq6 := rs_tr (rs_rf M0) pf_M3
    have e7 : M3 230 = M0 230 := (kq4.2.2 230 (by decide)).trans (rfl : M0 230 = M0 230)
    refine rr_cV1 pf_260_17 po_260 pc_9_478 (ws_228 hW) po_250 (by decide) rfl hcM3 ?_
    
    refine rr_aload_n pf_260_20 rfl ?_
    obtain ⟨M8, ⟨kq9, pr_M8, p9_M8, pf_M8⟩, hcM8⟩ := ct_R_passIt (xs := xs) (L := L) (d := d) (lw := lw) (by omega) hW q4.1 q4.2.1 (by rw [rr_eq e7]; exact hρ) (lwR_eq e7 hlw) ((rq6 20 (by decide) (by decide)).trans hord) (by rw [rr_eq e7]; omega)
    have q9 := qk_trm q4 kq9 (by decide)
    rw [rr_eq e7] at pr_M8
    have rq11 := rs_tr rq6 (rs_rq pf_M8)
    refine rr_cV0 pf_260_21 po_260 pc_9_496 (ws_228 hW) po_261 (by decide) rfl hcM8 ?_
    
    refine rr_aload_n pf_260_24 rfl ?_
    refine rr_getR pf_260_25 po_260 pg_9_13 rfl (ws_228 hW) (by decide) (wr_228_3 q9.1) ?_
    refine rr_iconst pf_260_28 ?_
    refine vr_iald (j := 5) q9 pf_260_29 (ws_230 hW) (by omega) (by omega) (by decide) (fun x12 hx12 rx12 => ?_)
    rw [rr_of pr_M8 (by omega), show sp_pasR lw (rr_ M0) 5 = rr_ M0 5 + 1 from by unfold sp_pasR; exact rup_s _ _ _] at hx12
    refine rr_iret pf_260_30 pt_260 ⟨_, M8, rfl, rfl, q9, (by unfold sp_pasV; rw [if_pos (by omega)]; omega), (by rw [pr_M8]; unfold sp_pasW; rw [if_pos (by omega)]), (r9_tr (r9_eq e7) p9_M8), (by rw [if_pos (by omega)]; exact tl_q pt_M3 kq9 (pf_M8 8 (by decide)) (by decide) (by decide)), (rq11)⟩
  · refine rr_bipush pf_260_12 (by decide) ?_
    refine rr_iret pf_260_14 pt_260 ⟨_, M0, rfl, rfl, q0, (by unfold sp_pasV; rw [if_neg (by omega)]), (by unfold sp_pasW; rw [if_neg (by omega)]), (r9_eq (rfl : M0 230 = M0 230)), (by rw [if_neg (by omega)]; exact htl), ((rs_rf M0))⟩

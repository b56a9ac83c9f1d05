/-! the reference: preaching, the hour -/
theorem lp_R_preachIt_30 {xs : Nat → Int} {L d : Nat} {sh : List (Nat × Nat)} (hd : 6 ≤ d) (hW : px_W0 <+: sh) {M0 : Nat → Nat → Int}  (hρ : sp_ok (rr_ M0)) {lw : List sp_C} (hlw : px_lwR M0 lw) (hord : M0 228 20 = 0) {w : Nat} (hw : w < 8)  {Q : Option Value → px_H → Prop} (kx : ∀ (got : Int) (p : Nat) (v4 : Value) (v5 : Value) (M : Nat → Nat → Int), px_qk sh [228, 230, 246, 248, 249] M0 M → (rq M0 M) → (rr_ M = sp_preR lw (rr_ M0) w 16) → (r9 M0 M) → (got = sp_preA lw (rr_ M0) w 16) → px_R xs L d 252 (105, [.ref 228, .int (iI (((w : Nat) : Int))), .int (iI (got)), .int (iI (((p : Nat) : Int))), v4, v5], [], (sh, M)) Q)  : ∀ (m : Nat) (got : Int) (p : Nat) (v4 : Value) (v5 : Value) (M : Nat → Nat → Int), 16 - p = m → px_qk sh [228, 230, 246, 248, 249] M0 M → (rq M0 M) → (p ≤ 16) → (∀ j, j < 16 → M 249 j = sp_stain lw (rr_ M0) w j) → (rr_ M = sp_preR lw (rr_ M0) w p) → (r9 M0 M) → (got = sp_preA lw (rr_ M0) w p) → px_R xs L d 252 (30, [.ref 228, .int (iI (((w : Nat) : Int))), .int (iI (got)), .int (iI (((p : Nat) : Int))), v4, v5], [], (sh, M)) Q := by
  intro m
  induction m using Nat.strongRecOn with
  | _ m ih =>
    intro got p v4 v5 M hm hq hrq hp hst hrow hr9 hg
    have hwh := sp_wh_b hρ hw
    have hAb := fun (h : p ≤ 16) => sp_preA_b (lw := lw) hρ hw p h
    refine rr_iload_n pf_252_30 rfl ?_
    refine rr_bipush pf_252_31 (by decide) ?_
    refine rr_icmp_ge 105 pf_252_33 (by decide) (by unfold rg; omega) (by unfold rg; omega) (fun c1 => ?_) (fun c1 => ?_)
    · exact kx got p _ _ M hq (hrq) (by rw [hrow, show p = 16 by omega]) (hr9) (by rw [hg, show p = 16 by omega])
    · refine rr_bipush pf_252_36 (by decide) ?_
      refine rr_iconst pf_252_38 ?_
      refine rr_iload_n pf_252_39 rfl ?_
      refine rr_imul pf_252_40 ?_
      refine rr_iadd pf_252_41 ?_
      refine rr_aload_n pf_252_42 rfl ?_
      refine rr_getR pf_252_43 po_252 pg_9_13 rfl (ws_228 hW) (by decide) (wr_228_3 hq.1) ?_
      refine rr_bipush pf_252_46 (by decide) ?_
      refine rr_iload_n pf_252_48 rfl ?_
      refine rr_iadd pf_252_49 ?_
      refine vr_iald (j := 69 + w) hq pf_252_50 (ws_230 hW) (by omega) (by omega) (by decide) (fun x2 hx2 rx2 => ?_)
      rw [rr_of hrow (by omega), sp_pre_n (by omega)] at hx2
      refine rr_iadd pf_252_51 ?_
      refine rr_istore pf_252_52 (fun y => [.ref 228, .int (iI (((w : Nat) : Int))), .int (iI (got)), .int (iI (((p : Nat) : Int))), .int (iI (y)), v5]) (Nat.le_of_ble_eq_true rfl) (fun _ => rfl) (fun y3 hy3 => ?_)
      refine rr_aload_n pf_252_54 rfl ?_
      refine rr_getR pf_252_55 po_252 pg_9_13 rfl (ws_228 hW) (by decide) (wr_228_3 hq.1) ?_
      refine rr_iload pf_252_58 rfl ?_
      refine vr_iald (j := 9 + (3 * p + (rr_ M0 (69 + w)).toNat)) hq pf_252_60 (ws_230 hW) (by omega) (by omega) (by decide) (fun x4 hx4 rx4 => ?_)
      rw [rr_of hrow (by omega), sp_pre_n (by omega)] at hx4
      have hhu : x4 = sp_hue (rr_ M0) p (rr_ M0 (69 + w)).toNat := hx4
      have hhb := sp_hue_b hρ (p := p) (i := (rr_ M0 (69 + w)).toNat) (by omega) (by omega)
      refine rr_aload_n pf_252_61 rfl ?_
      refine rr_getR pf_252_62 po_252 pg_9_116 rfl (ws_228 hW) (by decide) (wr_228_41 hq.1) ?_
      refine rr_iload_n pf_252_65 rfl ?_
      refine vr_iald (j := p) hq pf_252_66 (ws_249 hW) (by omega) (by omega) (by decide) (fun x5 hx5 rx5 => ?_)
      rw [hst _ (by omega)] at hx5
      have hsb := sp_stain_b lw (rr_ M0) w p
      refine rr_iadd pf_252_67 ?_
      refine rr_i2l pf_252_68 (by unfold rg; omega) ?_
      refine rr_iconst pf_252_69 ?_
      refine rr_bipush pf_252_70 (by decide) ?_
      refine rr_cS3 pf_252_72 po_252 pc_9_466 (by decide) rfl (ct_R_within (by omega) (by unfold rl; omega) (by unfold rg; omega) (by unfold rg; omega) (by omega)) ?_
      refine rr_istore pf_252_75 (fun y => [.ref 228, .int (iI (((w : Nat) : Int))), .int (iI (got)), .int (iI (((p : Nat) : Int))), .int (iI (y3)), .int (iI (y))]) (Nat.le_of_ble_eq_true rfl) (fun _ => rfl) (fun y6 hy6 => ?_)
      refine rr_iload_n pf_252_77 rfl ?_
      refine rr_iload pf_252_78 rfl ?_
      refine rr_aload_n pf_252_80 rfl ?_
      refine rr_getR pf_252_81 po_252 pg_9_13 rfl (ws_228 hW) (by decide) (wr_228_3 hq.1) ?_
      refine rr_iload pf_252_84 rfl ?_
      refine vr_iald (j := 9 + (3 * p + (rr_ M0 (69 + w)).toNat)) hq pf_252_86 (ws_230 hW) (by omega) (by omega) (by decide) (fun x7 hx7 rx7 => ?_)
      rw [rr_of hrow (by omega), sp_pre_n (by omega)] at hx7
      have hhu2 : x7 = sp_hue (rr_ M0) p (rr_ M0 (69 + w)).toNat := hx7
      refine rr_isub pf_252_87 ?_
      refine rr_iadd pf_252_88 ?_
      have hA2 := hAb hp
      refine rr_istore_n pf_252_89 (fun y => [.ref 228, .int (iI (((w : Nat) : Int))), .int (iI (y)), .int (iI (((p : Nat) : Int))), .int (iI (y3)), .int (iI (y6))]) (Nat.le_of_ble_eq_true rfl) (fun _ => rfl) (fun y8 hy8 => ?_)
      refine rr_aload_n pf_252_90 rfl ?_
      refine rr_getR pf_252_91 po_252 pg_9_13 rfl (ws_228 hW) (by decide) (wr_228_3 hq.1) ?_
      refine rr_iload pf_252_94 rfl ?_
      refine rr_iload pf_252_96 rfl ?_
      refine vr_iast (j := 9 + (3 * p + (rr_ M0 (69 + w)).toNat)) hW hq pf_252_98 (ws_230 hW) (by omega) (by omega) (by decide) (by unfold rg; omega) (by decide) (fun M9 eM9 q10 => ?_)
      have rq11 := rq_ne hrq eM9 (by decide)
      refine rr_iinc pf_252_99 rfl (fun y => [.ref 228, .int (iI (((w : Nat) : Int))), .int (iI (y8)), .int (iI (y)), .int (iI (y3)), .int (iI (y6))]) (fun _ => rfl) (fun y12 hy12 => ?_)
      refine rr_goto 30 pf_252_102 (by decide) ?_
      obtain ⟨n13, hn13, rfl⟩ : ∃ zz : Nat, zz = 1 + p ∧ y12 = ((zz : Nat) : Int) := ⟨1 + p, rfl, by omega⟩
      exact ih _ (by omega) y8 n13 _ _ M9 rfl q10 (rq11) (by omega) (by intro j hj; rw [eM9, ask_ne (by decide)]; exact hst j hj) (by rw [rr_w hrow eM9 (by omega), show n13 = p + 1 by omega, ← sp_pre_s hρ hw (by omega)]; congr 1; unfold sp_got; omega) (r9_up hr9 eM9 (by omega)) (by rw [show n13 = p + 1 by omega, sp_preA]; unfold sp_got; omega)
theorem lp_R_preachIt_2 {xs : Nat → Int} {L d : Nat} {sh : List (Nat × Nat)} (hd : 6 ≤ d) (hW : px_W0 <+: sh) {M0 : Nat → Nat → Int}  (hρ : sp_ok (rr_ M0)) {lw : List sp_C} (hlw : px_lwR M0 lw) (hord : M0 228 20 = 0) {w : Nat} (hw : w < 8)  {Q : Option Value → px_H → Prop} (kx : ∀ (p : Nat) (v3 : Value) (v4 : Value) (v5 : Value) (M : Nat → Nat → Int), px_qk sh [228, 246, 248, 249] M0 M → (rq M0 M) → (∀ j, j < 16 → M 249 j = sp_stain lw (rr_ M0) w j) → px_R xs L d 252 (26, [.ref 228, .int (iI (((w : Nat) : Int))), .int (iI (((p : Nat) : Int))), v3, v4, v5], [], (sh, M)) Q)  : ∀ (m : Nat) (p : Nat) (v3 : Value) (v4 : Value) (v5 : Value) (M : Nat → Nat → Int), 16 - p = m → px_qk sh [228, 246, 248, 249] M0 M → (rq M0 M) → (p ≤ 16) → (∀ j, j < p → M 249 j = sp_stain lw (rr_ M0) w j) → px_R xs L d 252 (2, [.ref 228, .int (iI (((w : Nat) : Int))), .int (iI (((p : Nat) : Int))), v3, v4, v5], [], (sh, M)) Q := by
  intro m
  induction m using Nat.strongRecOn with
  | _ m ih =>
    intro p v3 v4 v5 M hm hq hrq hp hst
    refine rr_iload_n pf_252_2 rfl ?_
    refine rr_bipush pf_252_3 (by decide) ?_
    refine rr_icmp_ge 26 pf_252_5 (by decide) (by unfold rg; omega) (by unfold rg; omega) (fun c1 => ?_) (fun c1 => ?_)
    · exact kx p _ _ _ M hq (hrq) (by intro j hj; exact hst j (by omega))
    · refine rr_aload_n pf_252_8 rfl ?_
      refine rr_getR pf_252_9 po_252 pg_9_116 rfl (ws_228 hW) (by decide) (wr_228_41 hq.1) ?_
      refine rr_iload_n pf_252_12 rfl ?_
      refine rr_aload_n pf_252_13 rfl ?_
      refine rr_iload_n pf_252_14 rfl ?_
      refine rr_iload_n pf_252_15 rfl ?_
      obtain ⟨r4, M2, ⟨kq3, pv_M2, pf_M2⟩, hcM2⟩ := ct_R_stainsOf (xs := xs) (L := L) (d := d) (w := w) (p := p) (lw := lw) (by omega) hW hq.1 hq.2.1 (by rw [rr_q hq (by decide)]; exact hρ) (lwR_q hq (by decide) hlw) ((hrq 20 (by decide)).trans hord) (by omega) (by omega)
      have q3 := qk_trm hq kq3 (by decide)
      rw [rr_q hq (by decide)] at pv_M2
      have rq5 := rq_tr hrq pf_M2
      refine rr_cV2 pf_252_16 po_252 pc_9_224 (ws_228 hW) po_194 (by decide) rfl hcM2 ?_
      have hsb := sp_stain_b lw (rr_ M0) w p
      refine vr_iast (j := p) hW q3 pf_252_19 (ws_249 hW) (by omega) (by omega) (by decide) (by unfold rg; omega) (by decide) (fun M6 eM6 q7 => ?_)
      have rq8 := rq_ne rq5 eM6 (by decide)
      refine rr_iinc pf_252_20 rfl (fun y => [.ref 228, .int (iI (((w : Nat) : Int))), .int (iI (y)), v3, v4, v5]) (fun _ => rfl) (fun y9 hy9 => ?_)
      refine rr_goto 2 pf_252_23 (by decide) ?_
      obtain ⟨n10, hn10, rfl⟩ : ∃ zz : Nat, zz = 1 + p ∧ y9 = ((zz : Nat) : Int) := ⟨1 + p, rfl, by omega⟩
      exact ih _ (by omega) n10 _ _ _ M6 rfl q7 (rq8) (by omega) (by
                  intro j hj; rw [eM6, ask_up]; by_cases hc : j = p
                  · rw [if_pos hc, hc]; exact pv_M2
                  · rw [if_neg hc, kq3.2.2 249 (by decide)]; exact hst j (by omega))
theorem ct_R_preachIt {xs : Nat → Int} {L d : Nat} {sh : List (Nat × Nat)} {M0 : Nat → Nat → Int} (hd : 7 ≤ d) (hW : px_W0 <+: sh) (hF : px_Fx M0) (hG : px_RG sh M0)  (hρ : sp_ok (rr_ M0)) {lw : List sp_C} (hlw : px_lwR M0 lw) (hord : M0 228 20 = 0) {w : Nat} (hw : w < 8) : ∃ v M, (px_qk sh [228, 230, 246, 248, 249] M0 M ∧ (v = sp_preA lw (rr_ M0) w 16) ∧ (rr_ M = sp_preR lw (rr_ M0) w 16) ∧ (r9 M0 M) ∧ (rq M0 M)) ∧ px_Cl xs L d 252 [.ref 228, .int (iI (((w : Nat) : Int)))] (sh, M0) (some (.int (iI v))) (sh, M) := by
  obtain ⟨d, rfl⟩ : ∃ e, d = e + 1 := ⟨d - 1, by omega⟩
  have q0 : px_qk sh [228, 230, 246, 248, 249] M0 M0 := ⟨hF, hG, eo_rf⟩
  refine vc_i (Nat.le_of_ble_eq_true rfl) ?_
  show px_R xs L d 252 (0, [.ref 228, .int (iI (((w : Nat) : Int))), px_jk, px_jk, px_jk, px_jk], [], (sh, M0)) (fun r h' => ∃ v M', r = some (.int (iI v)) ∧ h' = (sh, M') ∧ px_qk sh [228, 230, 246, 248, 249] M0 M' ∧ v = sp_preA lw (rr_ M0) w 16 ∧ rr_ M' = sp_preR lw (rr_ M0) w 16 ∧ r9 M0 M' ∧ rq M0 M')
  refine rr_iconst pf_252_0 ?_
  refine rr_istore_n pf_252_1 (fun y => [.ref 228, .int (iI (((w : Nat) : Int))), .int (iI (y)), px_jk, px_jk, px_jk]) (Nat.le_of_ble_eq_true rfl) (fun _ => rfl) (fun y1 hy1 => ?_)
  obtain ⟨n2, hn2, rfl⟩ : ∃ zz : Nat, zz = 0 ∧ y1 = ((zz : Nat) : Int) := ⟨0, rfl, by omega⟩
  refine lp_R_preachIt_2 (xs := xs) (L := L) (d := d) (by omega) hW hρ hlw hord hw (fun p_3 v6 v7 v8 M4 q5 xrq_M4 xst_M4 => ?_) _ n2 _ _ _ M0 rfl ⟨q0.1, q0.2.1, eo_rf⟩ ((rq_rf _)) (by omega) (by intro j hj; exfalso; omega)
  have q9 := qk_trm q0 q5 (by decide)
  have rq10 := rq_tr (rq_rf M0) xrq_M4
  have h230 := q5.2.2 230 (by decide)
  have hrow0 : rr_ M4 = rr_ M0 := rr_eq h230
  refine rr_iconst pf_252_26 ?_
  refine rr_istore_n pf_252_27 (fun y => [.ref 228, .int (iI (((w : Nat) : Int))), .int (iI (y)), v6, v7, v8]) (Nat.le_of_ble_eq_true rfl) (fun _ => rfl) (fun y11 hy11 => ?_)
  refine rr_iconst pf_252_28 ?_
  refine rr_istore_n pf_252_29 (fun y => [.ref 228, .int (iI (((w : Nat) : Int))), .int (iI (y11)), .int (iI (y)), v7, v8]) (Nat.le_of_ble_eq_true rfl) (fun _ => rfl) (fun y12 hy12 => ?_)
  obtain ⟨n13, hn13, rfl⟩ : ∃ zz : Nat, zz = 0 ∧ y12 = ((zz : Nat) : Int) := ⟨0, rfl, by omega⟩
  refine lp_R_preachIt_30 (xs := xs) (L := L) (d := d) (by omega) hW hρ hlw hord hw (fun got_14 p_15 v18 v19 M16 q17 xrq_M16 xrow_M16 x9_M16 xg_M16 => ?_) _ y11 n13 _ _ M4 rfl q9 (rq10) (by omega) (xst_M4) (by rw [show n13 = 0 by omega, sp_pre_0]; exact hrow0) (r9_eq h230) (by rw [show n13 = 0 by omega]; exact hy11)
  refine rr_iload_n pf_252_105 rfl ?_
  refine rr_iret pf_252_106 pt_252 ⟨_, M16, rfl, rfl, q17, (xg_M16), (xrow_M16), (x9_M16), (xrq_M16)⟩
theorem lp_R_passIt_40 {xs : Nat → Int} {L d : Nat} {sh : List (Nat × Nat)} (hd : 9 ≤ d) (hW : px_W0 <+: sh) {M0 : Nat → Nat → Int}  (hρ : sp_ok (rr_ M0)) {lw : List sp_C} (hlw : px_lwR M0 lw) (hord : M0 228 20 = 0) (h2k : rr_ M0 5 ≤ 1999)  {Q : Option Value → px_H → Prop} (kx : ∀ (l : Nat) (M : Nat → Nat → Int), px_qk sh [228, 230, 246, 248, 250] M0 M → (rq M0 M) → (rr_ M = sp_pasS lw (rr_ M0) (rr_ M0 1).toNat) → (r9 M0 M) → px_R xs L d 261 (88, [.ref 228, .int (iI (((l : Nat) : Int)))], [], (sh, M)) Q)  : ∀ (m : Nat) (l : Nat) (M : Nat → Nat → Int), 6 - l = m → px_qk sh [228, 230, 246, 248, 250] M0 M → (rq M0 M) → ((l : Int) ≤ rr_ M0 1) → (∀ j : Nat, (j : Int) < rr_ M0 1 → M 250 j = sp_does lw (rr_ M0) j (rr_ M0 (57 + j)).toNat) → (rr_ M = sp_pasS lw (rr_ M0) l) → (r9 M0 M) → px_R xs L d 261 (40, [.ref 228, .int (iI (((l : Nat) : Int)))], [], (sh, M)) Q := by
  intro m
  induction m using Nat.strongRecOn with
  | _ m ih =>
    intro l M hm hq hrq hl hby hrow hr9
    have h1 := hρ.2.1
    refine rr_iload_n pf_261_40 rfl ?_
    refine rr_aload_n pf_261_41 rfl ?_
    refine rr_getR pf_261_42 po_261 pg_9_13 rfl (ws_228 hW) (by decide) (wr_228_3 hq.1) ?_
    refine rr_iconst pf_261_45 ?_
    refine vr_iald (j := 1) hq pf_261_46 (ws_230 hW) (by omega) (by omega) (by decide) (fun x1 hx1 rx1 => ?_)
    rw [rr_of hrow (by omega), sp_pas_n (by omega)] at hx1
    refine rr_icmp_ge 88 pf_261_47 (by decide) (by unfold rg; omega) rx1 (fun c2 => ?_) (fun c2 => ?_)
    · exact kx l M hq (hrq) (by rw [hrow, show (rr_ M0 1).toNat = l by omega]) (hr9)
    · refine rr_aload_n pf_261_50 rfl ?_
      refine rr_getR pf_261_51 po_261 pg_9_13 rfl (ws_228 hW) (by decide) (wr_228_3 hq.1) ?_
      refine rr_bipush pf_261_54 (by decide) ?_
      refine rr_iload_n pf_261_56 rfl ?_
      refine rr_iadd pf_261_57 ?_
      refine rr_aload_n pf_261_58 rfl ?_
      refine rr_getR pf_261_59 po_261 pg_9_13 rfl (ws_228 hW) (by decide) (wr_228_3 hq.1) ?_
      refine rr_bipush pf_261_62 (by decide) ?_
      refine rr_iload_n pf_261_64 rfl ?_
      refine rr_iadd pf_261_65 ?_
      refine vr_iald (j := 63 + l) hq pf_261_66 (ws_230 hW) (by omega) (by omega) (by decide) (fun x3 hx3 rx3 => ?_)
      rw [rr_of hrow (by omega), sp_pas_n (by omega)] at hx3
      have hspb := sp_spir_b hρ (l := l) (by omega)
      refine rr_aload_n pf_261_67 rfl ?_
      refine rr_getR pf_261_68 po_261 pg_9_119 rfl (ws_228 hW) (by decide) (wr_228_42 hq.1) ?_
      refine rr_iload_n pf_261_71 rfl ?_
      refine vr_iald (j := l) hq pf_261_72 (ws_250 hW) (by omega) (by omega) (by decide) (fun x4 hx4 rx4 => ?_)
      rw [hby l (by omega)] at hx4
      have hdb := sp_doesF_b lw (rr_ M0) l (sp_light lw (rr_ M0) (rr_ M0 (57 + l)).toNat)
      rw [sp_does_F] at hdb
      refine rr_iadd pf_261_73 ?_
      refine rr_i2l pf_261_74 (by unfold rg; omega) ?_
      refine rr_iconst pf_261_75 ?_
      refine rr_bipush pf_261_76 (by decide) ?_
      refine rr_cS3 pf_261_78 po_261 pc_9_466 (by decide) rfl (ct_R_within (by omega) (by unfold rl; omega) (by unfold rg; omega) (by unfold rg; omega) (by omega)) ?_
      refine vr_iast (j := 63 + l) hW hq pf_261_81 (ws_230 hW) (by omega) (by omega) (by decide) (by unfold rg; omega) (by decide) (fun M5 eM5 q6 => ?_)
      have rq7 := rq_ne hrq eM5 (by decide)
      refine rr_iinc pf_261_82 rfl (fun y => [.ref 228, .int (iI (y))]) (fun _ => rfl) (fun y8 hy8 => ?_)
      refine rr_goto 40 pf_261_85 (by decide) ?_
      obtain ⟨n9, hn9, rfl⟩ : ∃ zz : Nat, zz = 1 + l ∧ y8 = ((zz : Nat) : Int) := ⟨1 + l, rfl, by omega⟩
      exact ih _ (by omega) n9 M5 rfl q6 (rq7) (by omega) (by intro j hj; rw [eM5, ask_ne (by decide)]; exact hby j hj) (by rw [rr_w hrow eM5 (by omega), show n9 = l + 1 by omega, ← sp_pas_s]; congr 1; unfold sp_sp1; omega) (r9_up hr9 eM5 (by omega))
theorem lp_R_passIt_2 {xs : Nat → Int} {L d : Nat} {sh : List (Nat × Nat)} (hd : 9 ≤ d) (hW : px_W0 <+: sh) {M0 : Nat → Nat → Int}  (hρ : sp_ok (rr_ M0)) {lw : List sp_C} (hlw : px_lwR M0 lw) (hord : M0 228 20 = 0) (h2k : rr_ M0 5 ≤ 1999)  {Q : Option Value → px_H → Prop} (kx : ∀ (l : Nat) (M : Nat → Nat → Int), px_qk sh [228, 246, 248, 250] M0 M → (rq M0 M) → (∀ j : Nat, (j : Int) < rr_ M0 1 → M 250 j = sp_does lw (rr_ M0) j (rr_ M0 (57 + j)).toNat) → px_R xs L d 261 (38, [.ref 228, .int (iI (((l : Nat) : Int)))], [], (sh, M)) Q)  : ∀ (m : Nat) (l : Nat) (M : Nat → Nat → Int), 6 - l = m → px_qk sh [228, 246, 248, 250] M0 M → (rq M0 M) → ((l : Int) ≤ rr_ M0 1) → (∀ j, j < l → M 250 j = sp_does lw (rr_ M0) j (rr_ M0 (57 + j)).toNat) → px_R xs L d 261 (2, [.ref 228, .int (iI (((l : Nat) : Int)))], [], (sh, M)) Q := by
  intro m
  induction m using Nat.strongRecOn with
  | _ m ih =>
    intro l M hm hq hrq hl hby
    have h1 := hρ.2.1
    refine rr_iload_n pf_261_2 rfl ?_
    refine rr_aload_n pf_261_3 rfl ?_
    refine rr_getR pf_261_4 po_261 pg_9_13 rfl (ws_228 hW) (by decide) (wr_228_3 hq.1) ?_
    refine rr_iconst pf_261_7 ?_
    refine vr_iald (j := 1) hq pf_261_8 (ws_230 hW) (by omega) (by omega) (by decide) (fun x1 hx1 rx1 => ?_)
    rw [hq.2.2 230 (by decide)] at hx1
    rw [rr_at (M := M0) (i := 1) (by omega)] at hx1
    refine rr_icmp_ge 38 pf_261_9 (by decide) (by unfold rg; omega) rx1 (fun c2 => ?_) (fun c2 => ?_)
    · exact kx l M hq (hrq) (by intro j hj; exact hby j (by omega))
    · refine rr_aload_n pf_261_12 rfl ?_
      refine rr_getR pf_261_13 po_261 pg_9_119 rfl (ws_228 hW) (by decide) (wr_228_42 hq.1) ?_
      refine rr_iload_n pf_261_16 rfl ?_
      refine rr_aload_n pf_261_17 rfl ?_
      refine rr_iload_n pf_261_18 rfl ?_
      refine rr_aload_n pf_261_19 rfl ?_
      refine rr_getR pf_261_20 po_261 pg_9_13 rfl (ws_228 hW) (by decide) (wr_228_3 hq.1) ?_
      refine rr_bipush pf_261_23 (by decide) ?_
      refine rr_iload_n pf_261_25 rfl ?_
      refine rr_iadd pf_261_26 ?_
      refine vr_iald (j := 57 + l) hq pf_261_27 (ws_230 hW) (by omega) (by omega) (by decide) (fun x3 hx3 rx3 => ?_)
      rw [hq.2.2 230 (by decide)] at hx3
      rw [rr_at (M := M0) (i := 57 + l) (by omega)] at hx3
      have hseat := sp_seat_b hρ (l := l) (by omega)
      obtain ⟨r6, M4, ⟨kq5, pv_M4, pf_M4⟩, hcM4⟩ := ct_R_doesOf (xs := xs) (L := L) (d := d) (l := l) (s := (rr_ M0 (57 + l)).toNat) (lw := lw) (by omega) hW hq.1 hq.2.1 (by rw [rr_q hq (by decide)]; exact hρ) (lwR_q hq (by decide) hlw) ((hrq 20 (by decide)).trans hord) (by omega) (by omega)
      rw [show (((rr_ M0 (57 + l)).toNat : Nat) : Int) = x3 by omega] at hcM4
      have q5 := qk_trm hq kq5 (by decide)
      rw [rr_q hq (by decide)] at pv_M4
      have rq7 := rq_tr hrq pf_M4
      refine rr_cV2 pf_261_28 po_261 pc_9_251 (ws_228 hW) po_207 (by decide) rfl hcM4 ?_
      have hdb := sp_doesF_b lw (rr_ M0) l (sp_light lw (rr_ M0) (rr_ M0 (57 + l)).toNat)
      rw [sp_does_F] at hdb
      refine vr_iast (j := l) hW q5 pf_261_31 (ws_250 hW) (by omega) (by omega) (by decide) (by unfold rg; omega) (by decide) (fun M8 eM8 q9 => ?_)
      have rq10 := rq_ne rq7 eM8 (by decide)
      refine rr_iinc pf_261_32 rfl (fun y => [.ref 228, .int (iI (y))]) (fun _ => rfl) (fun y11 hy11 => ?_)
      refine rr_goto 2 pf_261_35 (by decide) ?_
      obtain ⟨n12, hn12, rfl⟩ : ∃ zz : Nat, zz = 1 + l ∧ y11 = ((zz : Nat) : Int) := ⟨1 + l, rfl, by omega⟩
      exact ih _ (by omega) n12 M8 rfl q9 (rq10) (by omega) (by
                  intro j hj; rw [eM8, ask_up]; by_cases hc : j = l
                  · rw [if_pos hc, hc]; exact pv_M4
                  · rw [if_neg hc, kq5.2.2 250 (by decide)]; exact hby j (by omega))
theorem ct_R_passIt {xs : Nat → Int} {L d : Nat} {sh : List (Nat × Nat)} {M0 : Nat → Nat → Int} (hd : 10 ≤ d) (hW : px_W0 <+: sh) (hF : px_Fx M0) (hG : px_RG sh M0)  (hρ : sp_ok (rr_ M0)) {lw : List sp_C} (hlw : px_lwR M0 lw) (hord : M0 228 20 = 0) (h2k : rr_ M0 5 ≤ 1999) : ∃ M, (px_qk sh [228, 230, 246, 248, 250] M0 M ∧ (rr_ M = sp_pasR lw (rr_ M0)) ∧ (r9 M0 M) ∧ (rq M0 M)) ∧ px_Cl xs L d 261 [.ref 228] (sh, M0) (none) (sh, M) := by
  obtain ⟨d, rfl⟩ : ∃ e, d = e + 1 := ⟨d - 1, by omega⟩
  have q0 : px_qk sh [228, 230, 246, 248, 250] M0 M0 := ⟨hF, hG, eo_rf⟩
  have h1 := hρ.2.1
  have h5 := hρ.2.2.2.2.2.1
  refine vc_n (Nat.le_of_ble_eq_true rfl) ?_
  show px_R xs L d 261 (0, [.ref 228, px_jk], [], (sh, M0)) (fun r h' => r = none ∧ ∃ M', h' = (sh, M') ∧ px_qk sh [228, 230, 246, 248, 250] M0 M' ∧ rr_ M' = sp_pasR lw (rr_ M0) ∧ r9 M0 M' ∧ rq M0 M')
  refine rr_iconst pf_261_0 ?_
  refine rr_istore_n pf_261_1 (fun y => [.ref 228, .int (iI (y))]) (Nat.le_of_ble_eq_true rfl) (fun _ => rfl) (fun y1 hy1 => ?_)
  obtain ⟨n2, hn2, rfl⟩ : ∃ zz : Nat, zz = 0 ∧ y1 = ((zz : Nat) : Int) := ⟨0, rfl, by omega⟩
  refine lp_R_passIt_2 (xs := xs) (L := L) (d := d) (by omega) hW hρ hlw hord h2k (fun l_3  M4 q5 xrq_M4 xby_M4 => ?_) _ n2 M0 rfl ⟨q0.1, q0.2.1, eo_rf⟩ ((rq_rf _)) (by omega) (by intro j hj; exfalso; omega)
  have q6 := qk_trm q0 q5 (by decide)
  have rq7 := rq_tr (rq_rf M0) xrq_M4
  have h230 := q5.2.2 230 (by decide)
  have hrow0 : rr_ M4 = rr_ M0 := rr_eq h230
  refine rr_iconst pf_261_38 ?_
  refine rr_istore_n pf_261_39 (fun y => [.ref 228, .int (iI (y))]) (Nat.le_of_ble_eq_true rfl) (fun _ => rfl) (fun y8 hy8 => ?_)
  obtain ⟨n9, hn9, rfl⟩ : ∃ zz : Nat, zz = 0 ∧ y8 = ((zz : Nat) : Int) := ⟨0, rfl, by omega⟩
  refine lp_R_passIt_40 (xs := xs) (L := L) (d := d) (by omega) hW hρ hlw hord h2k (fun l_10  M11 q12 xrq_M11 xrow_M11 x9_M11 => ?_) _ n9 M4 rfl q6 (rq7) (by omega) (xby_M4) (by rw [show n9 = 0 by omega, sp_pas_0]; exact hrow0) (r9_eq h230)
  refine rr_aload_n pf_261_88 rfl ?_
  refine rr_getR pf_261_89 po_261 pg_9_13 rfl (ws_228 hW) (by decide) (wr_228_3 q12.1) ?_
  refine rr_iconst pf_261_92 ?_
  refine rr_dup2 pf_261_93 rfl rfl ?_
  refine vr_iald (j := 5) q12 pf_261_94 (ws_230 hW) (by omega) (by omega) (by decide) (fun x13 hx13 rx13 => ?_)
  rw [rr_of xrow_M11 (by omega)] at hx13
  have hx5b : x13 = rr_ M0 5 := by rw [hx13, sp_pas_n (by omega)]
  refine rr_iconst pf_261_95 ?_
  refine rr_iadd pf_261_96 ?_
  refine vr_iast (j := 5) hW q12 pf_261_97 (ws_230 hW) (by omega) (by omega) (by decide) (by unfold rg; omega) (by decide) (fun M14 eM14 q15 => ?_)
  have rq16 := rq_ne xrq_M11 eM14 (by decide)
  refine rr_vret pf_261_98 pt_261 ⟨rfl, M14, rfl, q15, (by rw [rr_w xrow_M11 eM14 (by omega)]; unfold sp_pasR; rw [hx13, sp_pas_n (by omega)]), (r9_up x9_M11 eM14 (by omega)), (rq16)⟩

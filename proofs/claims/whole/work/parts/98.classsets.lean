/-! the class on paper: which sets fit, the pane to look at -/
theorem told_b {ρ : Nat → Int} (h : sp_ok ρ) {k : Nat} (hk : (k : Int) < ρ 2) : (0 ≤ ρ (85 + 3 * k) ∧ ρ (85 + 3 * k) ≤ 15) ∧ (0 ≤ ρ (85 + 3 * k + 1) ∧ ρ (85 + 3 * k + 1) ≤ 2) ∧ (0 ≤ ρ (85 + 3 * k + 2) ∧ ρ (85 + 3 * k + 2) ≤ 99) := h.2.2.2.2.2.2.2.2.2.2.2.2.2.2 k (by have := h.2.2.1; omega)
theorem lp_Paper_fits_44 {xs : Nat → Int} {L d : Nat} {sh : List (Nat × Nat)} (hd : 2 ≤ d) (hW : px_W0 <+: sh) {M0 : Nat → Nat → Int}  {ρ : Nat → Int} (hR : rc M0 3 = ρ) (hρ : sp_ok ρ) {lw : List sp_C} {n s : Nat} (hn : ρ 0 = ((n : Nat) : Int)) (hs6 : s < 65536) (hst : ∀ k w : Nat, (k : Int) < ρ 2 → w < n → M0 177 (16 * w + (ρ (85 + 3 * k)).toNat) = sp_stain lw ρ w (ρ (85 + 3 * k)).toNat) {k : Nat} (hk2 : (k : Int) < ρ 2) {f3 pn : Int} (hf3 : f3 = 3 * (k : Int)) (hpn : pn = ρ (85 + 3 * k)) {Q : Option Value → px_H → Prop} (kx : ∀ (left : Int) (w : Nat) (M : Nat → Nat → Int), px_qk sh [] M0 M → (eqI left (ρ (85 + 3 * k + 2) - sp_gv lw ρ s (ρ (85 + 3 * k)).toNat (ρ (85 + 3 * k + 1)) n)) → (-400 ≤ left ∧ left ≤ 200) → px_R xs L d 130 (109, [.ref 175, .int (iI (((s : Nat) : Int))), .int (iI (((k : Nat) : Int))), .int (iI (f3)), .int (iI (pn)), .int (iI (left)), .int (iI (((w : Nat) : Int)))], [], (sh, M)) Q)  : ∀ (mz : Nat) (left : Int) (w : Nat) (M : Nat → Nat → Int), n - w = mz → px_qk sh [] M0 M → (w ≤ n) → (eqI left (ρ (85 + 3 * k + 2) - sp_gv lw ρ s (ρ (85 + 3 * k)).toNat (ρ (85 + 3 * k + 1)) w)) → (-200 - 20 * (w : Int) ≤ left ∧ left ≤ 200) → px_R xs L d 130 (44, [.ref 175, .int (iI (((s : Nat) : Int))), .int (iI (((k : Nat) : Int))), .int (iI (f3)), .int (iI (pn)), .int (iI (left)), .int (iI (((w : Nat) : Int)))], [], (sh, M)) Q := by
  intro mz
  induction mz using Nat.strongRecOn with
  | _ mz ih =>
    intro left w M hm hq hw ha hlb
    have h0 := hρ.1
    have h2 := hρ.2.2.1
    have htd := told_b hρ hk2
    refine rr_iload pf_130_44 rfl ?_
    refine rr_aload_n pf_130_46 rfl ?_
    refine rr_getR pf_130_47 po_130 pg_2_65 rfl (ws_175 hW) (by decide) (wr_175_3 hq.1) ?_
    refine vr_getI hq pf_130_50 po_130 pg_2_77 rfl (ws_3 hW) (by decide) (fun x1 hx1 rx1 => ?_)
    rw [hq.2.2 3 (by decide)] at hx1
    change x1 = rc M0 3 0 at hx1
    rw [hR] at hx1
    refine rr_icmp_ge 109 pf_130_53 (by decide) (by unfold rg; omega) rx1 (fun c2 => ?_) (fun c2 => ?_)
    · exact kx left w M hq (by rw [show n = w by omega]; exact ha) (by omega)
    · refine rr_iload_n pf_130_56 rfl ?_
      refine rr_iload pf_130_57 rfl ?_
      refine rr_ishr (((s : Nat) : Int) / 2 ^ w) pf_130_59 (iI_shr (by unfold rg; omega) (by omega)) ?_
      refine rr_iconst pf_130_60 ?_
      refine rr_iand (((s : Nat) : Int) / 2 ^ w % 2) pf_130_61 iI_m1 ?_
      refine rr_iconst pf_130_62 ?_
      refine rr_icmp_ne 103 pf_130_63 (by decide) (by unfold rg; omega) (by unfold rg; omega) (fun c3 => ?_) (fun c3 => ?_)
      · have c63 := c3
        refine rr_iinc pf_130_103 rfl (fun y => [.ref 175, .int (iI (((s : Nat) : Int))), .int (iI (((k : Nat) : Int))), .int (iI (f3)), .int (iI (pn)), .int (iI (left)), .int (iI (y))]) (fun _ => rfl) (fun y4 hy4 => ?_)
        refine rr_goto 44 pf_130_106 (by decide) ?_
        obtain ⟨nz5, hnz5, rfl⟩ : ∃ zz : Nat, zz = 1 + w ∧ y4 = ((zz : Nat) : Int) := ⟨1 + w, rfl, by omega⟩
        exact ih _ (by omega) left nz5 M rfl hq (by omega) (by show left = _; rw [show nz5 = w + 1 by omega, sp_gv, if_neg (fun z => c63 ((tb_iff s w).mpr z.1)), Int.add_zero]; exact ha) (by omega)
      · have c63 := c3
        refine rr_aload_n pf_130_66 rfl ?_
        refine rr_getR pf_130_67 po_130 pg_2_65 rfl (ws_175 hW) (by decide) (wr_175_3 hq.1) ?_
        refine rr_getR pf_130_70 po_130 pg_2_106 rfl (ws_3 hW) (by decide) (wr_3_1 hq.1) ?_
        refine rr_iload pf_130_73 rfl ?_
        refine vr_iald (j := w) hq pf_130_75 (ws_8 hW) (by omega) (by omega) (by decide) (fun x6 hx6 rx6 => ?_)
        rw [hq.2.2 8 (by decide)] at hx6
        rw [c3_8 (M := M0) (i := w) (by omega), hR] at hx6
        refine rr_aload_n pf_130_76 rfl ?_
        refine rr_getR pf_130_77 po_130 pg_2_65 rfl (ws_175 hW) (by decide) (wr_175_3 hq.1) ?_
        refine rr_getR pf_130_80 po_130 pg_2_121 rfl (ws_3 hW) (by decide) (wr_3_3 hq.1) ?_
        refine rr_iload_n pf_130_83 rfl ?_
        refine rr_iconst pf_130_84 ?_
        refine rr_iadd pf_130_85 ?_
        refine vr_iald (j := (3 * k + 1)) hq pf_130_86 (ws_10 hW) (by omega) (by omega) (by decide) (fun x7 hx7 rx7 => ?_)
        rw [hq.2.2 10 (by decide)] at hx7
        rw [c3_10 (M := M0) (i := 3 * k + 1) (by omega), ← Nat.add_assoc, hR] at hx7
        refine rr_icmp_ne 103 pf_130_87 (by decide) rx6 rx7 (fun c8 => ?_) (fun c8 => ?_)
        · refine rr_iinc pf_130_103 rfl (fun y => [.ref 175, .int (iI (((s : Nat) : Int))), .int (iI (((k : Nat) : Int))), .int (iI (f3)), .int (iI (pn)), .int (iI (left)), .int (iI (y))]) (fun _ => rfl) (fun y9 hy9 => ?_)
          refine rr_goto 44 pf_130_106 (by decide) ?_
          obtain ⟨nz10, hnz10, rfl⟩ : ∃ zz : Nat, zz = 1 + w ∧ y9 = ((zz : Nat) : Int) := ⟨1 + w, rfl, by omega⟩
          exact ih _ (by omega) left nz10 M rfl hq (by omega) (by show left = _; rw [show nz10 = w + 1 by omega, sp_gv, if_neg (fun z => by rcases z.2 with z | z <;> omega), Int.add_zero]; exact ha) (by omega)
        · refine rr_iload pf_130_90 rfl ?_
          refine rr_aload_n pf_130_92 rfl ?_
          refine rr_iload pf_130_93 rfl ?_
          refine rr_iload pf_130_95 rfl ?_
          obtain ⟨r13, M11, ⟨kq12, pv_M11⟩, hcM11⟩ := ct_Paper_stain (xs := xs) (L := L) (d := d) (w := w) (p := (ρ (85 + 3 * k)).toNat) (by omega) hW hq.1 hq.2.1 (by omega) (by omega)
          rw [show (((ρ (85 + 3 * k)).toNat : Nat) : Int) = pn by omega] at hcM11
          obtain rfl := qk_nil kq12
          refine rr_cV2 pf_130_97 po_130 pc_2_127 (ws_175 hW) po_131 (by decide) rfl hcM11 ?_
          
          rw [hq.2.2 177 (by decide), hst k w hk2 (by omega)] at pv_M11
          have hsb := sp_stain_b lw ρ w (ρ (85 + 3 * k)).toNat
          refine rr_isub pf_130_100 ?_
          refine rr_istore pf_130_101 (fun y => [.ref 175, .int (iI (((s : Nat) : Int))), .int (iI (((k : Nat) : Int))), .int (iI (f3)), .int (iI (pn)), .int (iI (y)), .int (iI (((w : Nat) : Int)))]) (Nat.le_of_ble_eq_true rfl) (fun _ => rfl) (fun y14 hy14 => ?_)
          refine rr_iinc pf_130_103 rfl (fun y => [.ref 175, .int (iI (((s : Nat) : Int))), .int (iI (((k : Nat) : Int))), .int (iI (f3)), .int (iI (pn)), .int (iI (y14)), .int (iI (y))]) (fun _ => rfl) (fun y15 hy15 => ?_)
          refine rr_goto 44 pf_130_106 (by decide) ?_
          obtain ⟨nz16, hnz16, rfl⟩ : ∃ zz : Nat, zz = 1 + w ∧ y15 = ((zz : Nat) : Int) := ⟨1 + w, rfl, by omega⟩
          exact ih _ (by omega) y14 nz16 M rfl hq (by omega) (by show y14 = _; rw [show nz16 = w + 1 by omega, sp_gv, if_pos ⟨(tb_iff s w).mp (by omega), Or.inr (by omega)⟩, ← Int.sub_sub, ← (show left = _ from ha), hy14, pv_M11]) (by omega)
theorem lp_Paper_fits_2 {xs : Nat → Int} {L d : Nat} {sh : List (Nat × Nat)} (hd : 2 ≤ d) (hW : px_W0 <+: sh) {M0 : Nat → Nat → Int}  {ρ : Nat → Int} (hR : rc M0 3 = ρ) (hρ : sp_ok ρ) {lw : List sp_C} {n s : Nat} (hn : ρ 0 = ((n : Nat) : Int)) (hs6 : s < 65536) (hst : ∀ k w : Nat, (k : Int) < ρ 2 → w < n → M0 177 (16 * w + (ρ (85 + 3 * k)).toNat) = sp_stain lw ρ w (ρ (85 + 3 * k)).toNat)  {Q : Option Value → px_H → Prop} (kx : ∀ (k : Nat) (v3 : Value) (v4 : Value) (v5 : Value) (v6 : Value) (M : Nat → Nat → Int), px_qk sh [] M0 M → (sp_fit lw ρ n s = true) → px_R xs L d 130 (122, [.ref 175, .int (iI (((s : Nat) : Int))), .int (iI (((k : Nat) : Int))), v3, v4, v5, v6], [], (sh, M)) Q) (hQ : ∀ r h', (fun r h' => r = some (.int (iI (bI (sp_fit lw ρ n s = true)))) ∧ ∃ M', h' = (sh, M') ∧ px_qk sh [] M0 M') r h' → Q r h') : ∀ (mz : Nat) (k : Nat) (v3 : Value) (v4 : Value) (v5 : Value) (v6 : Value) (M : Nat → Nat → Int), 8 - k = mz → px_qk sh [] M0 M → ((k : Int) ≤ ρ 2) → (sp_fitN lw ρ n s k = true) → px_R xs L d 130 (2, [.ref 175, .int (iI (((s : Nat) : Int))), .int (iI (((k : Nat) : Int))), v3, v4, v5, v6], [], (sh, M)) Q := by
  intro mz
  induction mz using Nat.strongRecOn with
  | _ mz ih =>
    intro k v3 v4 v5 v6 M hm hq hk hf
    have h0 := hρ.1
    have h2 := hρ.2.2.1
    refine rr_iload_n pf_130_2 rfl ?_
    refine rr_aload_n pf_130_3 rfl ?_
    refine rr_getR pf_130_4 po_130 pg_2_65 rfl (ws_175 hW) (by decide) (wr_175_3 hq.1) ?_
    refine vr_getI hq pf_130_7 po_130 pg_2_118 rfl (ws_3 hW) (by decide) (fun x1 hx1 rx1 => ?_)
    rw [hq.2.2 3 (by decide)] at hx1
    change x1 = rc M0 3 2 at hx1
    rw [hR] at hx1
    refine rr_icmp_ge 122 pf_130_10 (by decide) (by unfold rg; omega) rx1 (fun c2 => ?_) (fun c2 => ?_)
    · exact kx k _ _ _ _ M hq (by unfold sp_fit; rw [show (ρ 2).toNat = k by omega]; exact hf)
    · refine rr_iload_n pf_130_13 rfl ?_
      refine rr_iconst pf_130_14 ?_
      refine rr_imul pf_130_15 ?_
      refine rr_istore_n pf_130_16 (fun y => [.ref 175, .int (iI (((s : Nat) : Int))), .int (iI (((k : Nat) : Int))), .int (iI (y)), v4, v5, v6]) (Nat.le_of_ble_eq_true rfl) (fun _ => rfl) (fun y3 hy3 => ?_)
      refine rr_aload_n pf_130_17 rfl ?_
      refine rr_getR pf_130_18 po_130 pg_2_65 rfl (ws_175 hW) (by decide) (wr_175_3 hq.1) ?_
      refine rr_getR pf_130_21 po_130 pg_2_121 rfl (ws_3 hW) (by decide) (wr_3_3 hq.1) ?_
      refine rr_iload_n pf_130_24 rfl ?_
      refine vr_iald (j := (3 * k)) hq pf_130_25 (ws_10 hW) (by omega) (by omega) (by decide) (fun x4 hx4 rx4 => ?_)
      rw [hq.2.2 10 (by decide)] at hx4
      rw [c3_10 (M := M0) (i := 3 * k) (by omega), hR] at hx4
      have htd := told_b hρ (k := k) (by omega)
      refine rr_istore pf_130_26 (fun y => [.ref 175, .int (iI (((s : Nat) : Int))), .int (iI (((k : Nat) : Int))), .int (iI (y3)), .int (iI (y)), v5, v6]) (Nat.le_of_ble_eq_true rfl) (fun _ => rfl) (fun y5 hy5 => ?_)
      have ry5 : rg y5 := hy5 ▸ rx4
      refine rr_aload_n pf_130_28 rfl ?_
      refine rr_getR pf_130_29 po_130 pg_2_65 rfl (ws_175 hW) (by decide) (wr_175_3 hq.1) ?_
      refine rr_getR pf_130_32 po_130 pg_2_121 rfl (ws_3 hW) (by decide) (wr_3_3 hq.1) ?_
      refine rr_iload_n pf_130_35 rfl ?_
      refine rr_iconst pf_130_36 ?_
      refine rr_iadd pf_130_37 ?_
      refine vr_iald (j := (3 * k + 2)) hq pf_130_38 (ws_10 hW) (by omega) (by omega) (by decide) (fun x6 hx6 rx6 => ?_)
      rw [hq.2.2 10 (by decide)] at hx6
      rw [c3_10 (M := M0) (i := 3 * k + 2) (by omega), ← Nat.add_assoc, hR] at hx6
      refine rr_istore pf_130_39 (fun y => [.ref 175, .int (iI (((s : Nat) : Int))), .int (iI (((k : Nat) : Int))), .int (iI (y3)), .int (iI (y5)), .int (iI (y)), v6]) (Nat.le_of_ble_eq_true rfl) (fun _ => rfl) (fun y7 hy7 => ?_)
      have ry7 : rg y7 := hy7 ▸ rx6
      refine rr_iconst pf_130_41 ?_
      refine rr_istore pf_130_42 (fun y => [.ref 175, .int (iI (((s : Nat) : Int))), .int (iI (((k : Nat) : Int))), .int (iI (y3)), .int (iI (y5)), .int (iI (y7)), .int (iI (y))]) (Nat.le_of_ble_eq_true rfl) (fun _ => rfl) (fun y8 hy8 => ?_)
      have hpnx : y5 = ρ (85 + 3 * k) := by omega
      obtain ⟨nz9, hnz9, rfl⟩ : ∃ zz : Nat, zz = 0 ∧ y8 = ((zz : Nat) : Int) := ⟨0, rfl, by omega⟩
      refine lp_Paper_fits_44 (xs := xs) (L := L) (d := d) (by omega) hW hR hρ hn hs6 hst (by omega) (by omega) hpnx (fun left_10 w_11  M12 q13 xa_M12 xb_M12 => ?_) _ y7 nz9 M rfl hq (by omega) (by show y7 = _; rw [show nz9 = 0 by omega, sp_gv]; omega) (by omega)
      have hlb := xb_M12
      refine rr_iload pf_130_109 rfl ?_
      refine rr_if_eq 116 pf_130_111 (by decide) (by unfold rg; omega) (fun c14 => ?_) (fun c14 => ?_)
      · refine rr_iinc pf_130_116 rfl (fun y => [.ref 175, .int (iI (((s : Nat) : Int))), .int (iI (y)), .int (iI (y3)), .int (iI (y5)), .int (iI (left_10)), .int (iI (((w_11 : Nat) : Int)))]) (fun _ => rfl) (fun y15 hy15 => ?_)
        refine rr_goto 2 pf_130_119 (by decide) ?_
        obtain ⟨nz16, hnz16, rfl⟩ : ∃ zz : Nat, zz = 1 + k ∧ y15 = ((zz : Nat) : Int) := ⟨1 + k, rfl, by omega⟩
        exact ih _ (by omega) nz16 _ _ _ _ M12 rfl q13 (by omega) (by rw [show nz16 = k + 1 by omega, sp_fitN, hf, Bool.true_and, decide_eq_true_eq]; have z : left_10 = _ := xa_M12; omega)
      · have hnf : ¬ (sp_fit lw ρ n s = true) := by
          unfold sp_fit
          have z : left_10 = _ := xa_M12
          have e : sp_fitN lw ρ n s (k + 1) = false := by
            rw [sp_fitN, hf, Bool.true_and, decide_eq_false_iff_not]; omega
          have e2 := fit_f e ((ρ 2).toNat - (k + 1))
          rw [show k + 1 + ((ρ 2).toNat - (k + 1)) = (ρ 2).toNat by omega] at e2
          rw [e2]; decide
        refine rr_iconst pf_130_114 ?_
        refine rr_zret pf_130_115 pt_130 (by first | exact Or.inl rfl | exact Or.inr rfl | omega) (hQ _ _ ⟨by rw [bI_f (by exact hnf)], M12, rfl, q13⟩)
theorem ct_Paper_fits {xs : Nat → Int} {L d : Nat} {sh : List (Nat × Nat)} {M0 : Nat → Nat → Int} (hd : 3 ≤ d) (hW : px_W0 <+: sh) (hF : px_Fx M0) (hG : px_RG sh M0)  {ρ : Nat → Int} (hR : rc M0 3 = ρ) (hρ : sp_ok ρ) {lw : List sp_C} {n s : Nat} (hn : ρ 0 = ((n : Nat) : Int)) (hs6 : s < 65536) (hst : ∀ k w : Nat, (k : Int) < ρ 2 → w < n → M0 177 (16 * w + (ρ (85 + 3 * k)).toNat) = sp_stain lw ρ w (ρ (85 + 3 * k)).toNat) : ∃ M, (px_qk sh [] M0 M) ∧ px_Cl xs L d 130 [.ref 175, .int (iI (((s : Nat) : Int)))] (sh, M0) (some (.int (iI (bI (sp_fit lw ρ n s = true))))) (sh, M) := by
  obtain ⟨d, rfl⟩ : ∃ e, d = e + 1 := ⟨d - 1, by omega⟩
  have q0 : px_qk sh [] M0 M0 := ⟨hF, hG, eo_rf⟩
  refine vc_n (Nat.le_of_ble_eq_true rfl) ?_
  show px_R xs L d 130 (0, [.ref 175, .int (iI (((s : Nat) : Int))), px_jk, px_jk, px_jk, px_jk, px_jk], [], (sh, M0)) (fun r h' => r = some (.int (iI (bI (sp_fit lw ρ n s = true)))) ∧ ∃ M', h' = (sh, M') ∧ px_qk sh [] M0 M')
  refine rr_iconst pf_130_0 ?_
  refine rr_istore_n pf_130_1 (fun y => [.ref 175, .int (iI (((s : Nat) : Int))), .int (iI (y)), px_jk, px_jk, px_jk, px_jk]) (Nat.le_of_ble_eq_true rfl) (fun _ => rfl) (fun y1 hy1 => ?_)
  obtain ⟨nz2, hnz2, rfl⟩ : ∃ zz : Nat, zz = 0 ∧ y1 = ((zz : Nat) : Int) := ⟨0, rfl, by omega⟩
  refine lp_Paper_fits_2 (xs := xs) (L := L) (d := d) (by omega) hW hR hρ hn hs6 hst (fun k_3 v6 v7 v8 v9 M4 q5 xf_M4 => ?_) (fun _ _ h => h) _ nz2 _ _ _ _ M0 rfl q0 (by have := hρ.2.2.1; omega) (by rw [show nz2 = 0 by omega]; rfl)
  have hyf := xf_M4
  refine rr_iconst pf_130_122 ?_
  refine rr_zret pf_130_123 pt_130 (by first | exact Or.inl rfl | exact Or.inr rfl | omega) ⟨by rw [bI_t (by exact hyf)], M4, rfl, q5⟩
theorem pcN_mono {lw : List sp_C} {ρ : Nat → Int} {n : Nat} (a : Nat) : ∀ j, pcN lw ρ n a ≤ pcN lw ρ n (a + j) := by
  intro j
  induction j with
  | zero => exact Nat.le_refl _
  | succ j ih => rw [← Nat.add_assoc, pcN]; omega
theorem pcN_lt {lw : List sp_C} {ρ : Nat → Int} {n a b : Nat} (h : a < b) (hf : sp_fit lw ρ n a = true) : pcN lw ρ n a < pcN lw ρ n b := by
  have := pcN_mono (lw := lw) (ρ := ρ) (n := n) (a + 1) (b - (a + 1))
  rw [show a + 1 + (b - (a + 1)) = b by omega, pcN, if_pos hf] at this
  omega
theorem pc_at {lw : List sp_C} {ρ : Nat → Int} {n : Nat} (i : Int) : ∀ m, ((0 ≤ i ∧ i < ((pcN lw ρ n m : Nat) : Int)) → ∃ s, s < m ∧ sp_fit lw ρ n s = true ∧ ((pcN lw ρ n s : Nat) : Int) = i ∧ pcI lw ρ n i m = ((s : Nat) : Int)) ∧ (¬ (0 ≤ i ∧ i < ((pcN lw ρ n m : Nat) : Int)) → pcI lw ρ n i m = -1) := by
  intro m
  induction m with
  | zero => exact ⟨fun h => by simp [pcN] at h; omega, fun _ => rfl⟩
  | succ m ih =>
    simp only [pcN, pcI]
    by_cases hf : sp_fit lw ρ n m = true
    · rw [if_pos hf]
      by_cases hi : ((pcN lw ρ n m : Nat) : Int) = i
      · rw [if_pos ⟨hf, hi⟩]
        exact ⟨fun _ => ⟨m, by omega, hf, hi, rfl⟩, fun h => by omega⟩
      · rw [if_neg (fun z => hi z.2)]
        refine ⟨fun h => ?_, fun h => ih.2 (by omega)⟩
        obtain ⟨s, h1, h2, h3, h4⟩ := ih.1 (by omega)
        exact ⟨s, by omega, h2, h3, h4⟩
    · rw [if_neg hf, if_neg (fun z => hf z.1), Nat.add_zero]
      refine ⟨fun h => ?_, fun h => ih.2 h⟩
      obtain ⟨s, h1, h2, h3, h4⟩ := ih.1 h
      exact ⟨s, by omega, h2, h3, h4⟩
theorem lp_Paper_findSets_41 {xs : Nat → Int} {L d : Nat} {sh : List (Nat × Nat)} (hd : 7 ≤ d) (hW : px_W0 <+: sh) {M0 : Nat → Nat → Int}  {ρ : Nat → Int} (hR : rc M0 3 = ρ) (hρ : sp_ok ρ) {lw : List sp_C} (hlw : px_lw sh M0 3 lw) {n : Nat} (hn : ρ 0 = ((n : Nat) : Int)) (hn8 : n ≤ 8)  {Q : Option Value → px_H → Prop} (kx : ∀ (s : Nat) (M : Nat → Nat → Int), px_qk sh [2, 13, 175, 176, 177] M0 M → (fk 175 [16] M0 M) → (M 175 16 = ((pcN lw ρ n (2 ^ n) : Nat) : Int)) → (∀ t, t < 2 ^ n → sp_fit lw ρ n t = true → M 176 (pcN lw ρ n t) = ((t : Nat) : Int)) → px_R xs L d 128 (88, [.ref 175, .int (iI (((s : Nat) : Int)))], [], (sh, M)) Q)  : ∀ (mz : Nat) (s : Nat) (M : Nat → Nat → Int), 2 ^ n - s = mz → px_qk sh [2, 13, 175, 176, 177] M0 M → (fk 175 [16] M0 M) → (s ≤ 2 ^ n) → (∀ k w : Nat, (k : Int) < ρ 2 → w < n → M 177 (16 * w + (ρ (85 + 3 * k)).toNat) = sp_stain lw ρ w (ρ (85 + 3 * k)).toNat) → (M 175 16 = ((pcN lw ρ n s : Nat) : Int)) → (∀ t, t < s → sp_fit lw ρ n t = true → M 176 (pcN lw ρ n t) = ((t : Nat) : Int)) → px_R xs L d 128 (41, [.ref 175, .int (iI (((s : Nat) : Int)))], [], (sh, M)) Q := by
  intro mz
  induction mz using Nat.strongRecOn with
  | _ mz ih =>
    intro s M hm hq hrq hs hst hc hse
    have h2n := p2_b hn8
    have hcb := pcN_le lw ρ n s
    refine rr_iload_n pf_128_41 rfl ?_
    refine rr_iconst pf_128_42 ?_
    refine rr_aload_n pf_128_43 rfl ?_
    refine rr_getR pf_128_44 po_128 pg_2_65 rfl (ws_175 hW) (by decide) (wr_175_3 hq.1) ?_
    refine vr_getI hq pf_128_47 po_128 pg_2_77 rfl (ws_3 hW) (by decide) (fun x1 hx1 rx1 => ?_)
    rw [hq.2.2 3 (by decide)] at hx1
    change x1 = rc M0 3 0 at hx1
    rw [hR] at hx1
    refine rr_ishl (((2 ^ n : Nat) : Int)) pf_128_50 (by rw [hx1, hn]; exact iI_shl1 n (by omega)) ?_
    refine rr_icmp_ge 88 pf_128_51 (by decide) (by unfold rg; omega) (by unfold rg; omega) (fun c2 => ?_) (fun c2 => ?_)
    · exact kx s M hq (hrq) (by rw [hc, show s = 2 ^ n by omega]) (by intro t ht; exact hse t (by omega))
    · refine rr_aload_n pf_128_54 rfl ?_
      refine rr_iload_n pf_128_55 rfl ?_
      obtain ⟨M3, kq4, hcM3⟩ := ct_Paper_fits (xs := xs) (L := L) (d := d) (s := s) (lw := lw) (n := n) (by omega) hW hq.1 hq.2.1 ((rc_eo hq.2.2 (by decide)).trans hR) hρ hn (by omega) hst
      obtain rfl := qk_nil kq4
      refine rr_cV1 pf_128_56 po_128 pc_2_124 (ws_175 hW) po_130 (by decide) rfl hcM3 ?_
      refine rr_ifb_eq 82 pf_128_59 (by decide) (fun c6 => ?_) (fun c6 => ?_)
      · have hft := c6
        refine rr_iinc pf_128_82 rfl (fun y => [.ref 175, .int (iI (y))]) (fun _ => rfl) (fun y7 hy7 => ?_)
        refine rr_goto 41 pf_128_85 (by decide) ?_
        obtain ⟨nz8, hnz8, rfl⟩ : ∃ zz : Nat, zz = 1 + s ∧ y7 = ((zz : Nat) : Int) := ⟨1 + s, rfl, by omega⟩
        exact ih _ (by omega) nz8 M rfl hq (hrq) (by omega) (hst) (by rw [show nz8 = s + 1 by omega, pcN, if_neg hft]; exact hc) (by
                      intro t ht hft2; rcases (show t < s ∨ t = s by omega) with z | z
                      · exact hse t z hft2
                      · exact absurd (z ▸ hft2) hft)
      · have hft := c6
        refine rr_aload_n pf_128_62 rfl ?_
        refine rr_getR pf_128_63 po_128 pg_2_11 rfl (ws_175 hW) (by decide) (wr_175_0 hq.1) ?_
        refine rr_aload_n pf_128_66 rfl ?_
        refine vr_getI hq pf_128_67 po_128 pg_2_56 rfl (ws_175 hW) (by decide) (fun x9 hx9 rx9 => ?_)
        rw [hc] at hx9
        refine rr_iload_n pf_128_70 rfl ?_
        refine vr_iast (j := (pcN lw ρ n s)) hW hq pf_128_71 (ws_176 hW) (by omega) (by omega) (by decide) (by unfold rg; omega) (by decide) (fun M10 eM10 q11 => ?_)
        have rq12 := fk_ne hrq eM10 (by decide)
        refine rr_aload_n pf_128_72 rfl ?_
        refine rr_dup pf_128_73 rfl ?_
        refine vr_getI q11 pf_128_74 po_128 pg_2_56 rfl (ws_175 hW) (by decide) (fun x13 hx13 rx13 => ?_)
        rw [eM10, ask_ne (by decide), hc] at hx13
        refine rr_iconst pf_128_77 ?_
        refine rr_iadd pf_128_78 ?_
        refine vr_putI hW q11 pf_128_79 po_128 pg_2_56 (Or.inl rfl) rfl (ws_175 hW) (by decide) (by unfold rg; omega) (by decide) (fun M14 eM14 q15 => ?_)
        have rq16 := fk_up rq12 eM14 (by decide)
        refine rr_iinc pf_128_82 rfl (fun y => [.ref 175, .int (iI (y))]) (fun _ => rfl) (fun y17 hy17 => ?_)
        refine rr_goto 41 pf_128_85 (by decide) ?_
        obtain ⟨nz18, hnz18, rfl⟩ : ∃ zz : Nat, zz = 1 + s ∧ y17 = ((zz : Nat) : Int) := ⟨1 + s, rfl, by omega⟩
        exact ih _ (by omega) nz18 M14 rfl q15 (rq16) (by omega) (by intro k2 w2 a b; rw [eM14, ask_ne (by decide), eM10, ask_ne (by decide)]; exact hst k2 w2 a b) (by rw [show nz18 = s + 1 by omega, pcN, if_pos hft, eM14, up_s]; omega) (by
                      intro t ht hft2; rw [eM14, ask_ne (by decide), eM10, ask_up]
                      rcases (show t < s ∨ t = s by omega) with z | z
                      · have := pcN_lt (lw := lw) (ρ := ρ) (n := n) z hft2
                        rw [if_neg (by omega)]; exact hse t z hft2
                      · rw [z, if_pos rfl])
theorem lp_Paper_findSets_2 {xs : Nat → Int} {L d : Nat} {sh : List (Nat × Nat)} (hd : 7 ≤ d) (hW : px_W0 <+: sh) {M0 : Nat → Nat → Int}  {ρ : Nat → Int} (hR : rc M0 3 = ρ) (hρ : sp_ok ρ) {lw : List sp_C} (hlw : px_lw sh M0 3 lw) {n : Nat} (hn : ρ 0 = ((n : Nat) : Int)) (hn8 : n ≤ 8)  {Q : Option Value → px_H → Prop} (kx : ∀ (k : Nat) (M : Nat → Nat → Int), px_qk sh [2, 13, 175, 176, 177] M0 M → (fk 175 [16] M0 M) → (∀ k w : Nat, (k : Int) < ρ 2 → w < n → M 177 (16 * w + (ρ (85 + 3 * k)).toNat) = sp_stain lw ρ w (ρ (85 + 3 * k)).toNat) → px_R xs L d 128 (34, [.ref 175, .int (iI (((k : Nat) : Int)))], [], (sh, M)) Q)  : ∀ (mz : Nat) (k : Nat) (M : Nat → Nat → Int), 8 - k = mz → px_qk sh [2, 13, 175, 176, 177] M0 M → (fk 175 [16] M0 M) → ((k : Int) ≤ ρ 2) → (∀ k2 w : Nat, k2 < k → w < n → M 177 (16 * w + (ρ (85 + 3 * k2)).toNat) = sp_stain lw ρ w (ρ (85 + 3 * k2)).toNat) → px_R xs L d 128 (2, [.ref 175, .int (iI (((k : Nat) : Int)))], [], (sh, M)) Q := by
  intro mz
  induction mz using Nat.strongRecOn with
  | _ mz ih =>
    intro k M hm hq hrq hk hst
    have h0 := hρ.1
    have h2 := hρ.2.2.1
    refine rr_iload_n pf_128_2 rfl ?_
    refine rr_aload_n pf_128_3 rfl ?_
    refine rr_getR pf_128_4 po_128 pg_2_65 rfl (ws_175 hW) (by decide) (wr_175_3 hq.1) ?_
    refine vr_getI hq pf_128_7 po_128 pg_2_118 rfl (ws_3 hW) (by decide) (fun x1 hx1 rx1 => ?_)
    rw [hq.2.2 3 (by decide)] at hx1
    change x1 = rc M0 3 2 at hx1
    rw [hR] at hx1
    refine rr_icmp_ge 34 pf_128_10 (by decide) (by unfold rg; omega) rx1 (fun c2 => ?_) (fun c2 => ?_)
    · exact kx k M hq (hrq) (by intro k2 w2 hk2; exact hst k2 w2 (by omega))
    · refine rr_aload_n pf_128_13 rfl ?_
      refine rr_aload_n pf_128_14 rfl ?_
      refine rr_getR pf_128_15 po_128 pg_2_65 rfl (ws_175 hW) (by decide) (wr_175_3 hq.1) ?_
      refine rr_getR pf_128_18 po_128 pg_2_121 rfl (ws_3 hW) (by decide) (wr_3_3 hq.1) ?_
      refine rr_iload_n pf_128_21 rfl ?_
      refine rr_iconst pf_128_22 ?_
      refine rr_imul pf_128_23 ?_
      refine vr_iald (j := (3 * k)) hq pf_128_24 (ws_10 hW) (by omega) (by omega) (by decide) (fun x3 hx3 rx3 => ?_)
      rw [hq.2.2 10 (by decide)] at hx3
      rw [c3_10 (M := M0) (i := 3 * k) (by omega), hR] at hx3
      have htd := told_b hρ (k := k) (by omega)
      obtain ⟨M4, ⟨kq5, pz_M4⟩, hcM4⟩ := ct_Paper_fillStains (xs := xs) (L := L) (d := d) (p := (ρ (85 + 3 * k)).toNat) (lw := lw) (by omega) hW hq.1 hq.2.1 (by rw [((rc_eo hq.2.2 (by decide)).trans hR)]; exact hρ) (lw_eo hlw hq.2.2 (by decide) (by decide) (by decide)) (by omega)
      rw [show (((ρ (85 + 3 * k)).toNat : Nat) : Int) = x3 by omega] at hcM4
      have q5 := qk_trm hq kq5 (by decide)
      have rq7 := fk_q hrq kq5 (by decide)
      refine rr_cV1 pf_128_25 po_128 pc_2_84 (ws_175 hW) po_129 (by decide) rfl hcM4 ?_
      refine rr_iinc pf_128_28 rfl (fun y => [.ref 175, .int (iI (y))]) (fun _ => rfl) (fun y8 hy8 => ?_)
      refine rr_goto 2 pf_128_31 (by decide) ?_
      obtain ⟨nz9, hnz9, rfl⟩ : ∃ zz : Nat, zz = 1 + k ∧ y8 = ((zz : Nat) : Int) := ⟨1 + k, rfl, by omega⟩
      exact ih _ (by omega) nz9 M4 rfl q5 (rq7) (by omega) (by
                  intro k2 w2 hk2 hw2
                  have t1 := told_b hρ (k := k2) (by omega)
                  have t2 := told_b hρ (k := k) (by omega)
                  rw [pz_M4 (16 * w2 + (ρ (85 + 3 * k2)).toNat), ((rc_eo hq.2.2 (by decide)).trans hR)]
                  by_cases hc : (16 * w2 + (ρ (85 + 3 * k2)).toNat) % 16 = (ρ (85 + 3 * k)).toNat
                  · rw [if_pos ⟨hc, by omega⟩, show (16 * w2 + (ρ (85 + 3 * k2)).toNat) / 16 = w2 by omega, show (ρ (85 + 3 * k)).toNat = (ρ (85 + 3 * k2)).toNat by omega]
                  · rw [if_neg (fun z => hc z.1)]
                    refine hst k2 w2 ?_ hw2
                    have : k2 ≠ k := fun z => hc (by rw [z]; omega)
                    omega)
theorem ct_Paper_findSets {xs : Nat → Int} {L d : Nat} {sh : List (Nat × Nat)} {M0 : Nat → Nat → Int} (hd : 8 ≤ d) (hW : px_W0 <+: sh) (hF : px_Fx M0) (hG : px_RG sh M0)  {ρ : Nat → Int} (hR : rc M0 3 = ρ) (hρ : sp_ok ρ) {lw : List sp_C} (hlw : px_lw sh M0 3 lw) {n : Nat} (hn : ρ 0 = ((n : Nat) : Int)) (hn8 : n ≤ 8) : ∃ v M, (px_qk sh [2, 13, 175, 176, 177] M0 M ∧ (v = ((pcN lw ρ n (2 ^ n) : Nat) : Int)) ∧ (M 175 16 = ((pcN lw ρ n (2 ^ n) : Nat) : Int)) ∧ (∀ t, t < 2 ^ n → sp_fit lw ρ n t = true → M 176 (pcN lw ρ n t) = ((t : Nat) : Int)) ∧ (fk 175 [16] M0 M)) ∧ px_Cl xs L d 128 [.ref 175] (sh, M0) (some (.int (iI v))) (sh, M) := by
  obtain ⟨d, rfl⟩ : ∃ e, d = e + 1 := ⟨d - 1, by omega⟩
  have q0 : px_qk sh [2, 13, 175, 176, 177] M0 M0 := ⟨hF, hG, eo_rf⟩
  have h0 := hρ.1
  have h2 := hρ.2.2.1
  have h2n := p2_b hn8
  refine vc_i (Nat.le_of_ble_eq_true rfl) ?_
  show px_R xs L d 128 (0, [.ref 175, px_jk], [], (sh, M0)) (fun r h' => ∃ v M', r = some (.int (iI v)) ∧ h' = (sh, M') ∧ px_qk sh [2, 13, 175, 176, 177] M0 M' ∧ v = ((pcN lw ρ n (2 ^ n) : Nat) : Int) ∧ M' 175 16 = ((pcN lw ρ n (2 ^ n) : Nat) : Int) ∧ (∀ t, t < 2 ^ n → sp_fit lw ρ n t = true → M' 176 (pcN lw ρ n t) = ((t : Nat) : Int)) ∧ fk 175 [16] M0 M')
  refine rr_iconst pf_128_0 ?_
  refine rr_istore_n pf_128_1 (fun y => [.ref 175, .int (iI (y))]) (Nat.le_of_ble_eq_true rfl) (fun _ => rfl) (fun y1 hy1 => ?_)
  obtain ⟨nz2, hnz2, rfl⟩ : ∃ zz : Nat, zz = 0 ∧ y1 = ((zz : Nat) : Int) := ⟨0, rfl, by omega⟩
  refine lp_Paper_findSets_2 (xs := xs) (L := L) (d := d) (by omega) hW hR hρ hlw hn hn8 (fun k_3  M4 q5 xrq_M4 xst_M4 => ?_) _ nz2 M0 rfl q0 ((fk_rf 175 [16] M0)) (by omega) (by intro k2 w2 hk2; exfalso; omega)
  refine rr_aload_n pf_128_34 rfl ?_
  refine rr_iconst pf_128_35 ?_
  refine vr_putI hW q5 pf_128_36 po_128 pg_2_56 (Or.inl rfl) rfl (ws_175 hW) (by decide) (by unfold rg; omega) (by decide) (fun M6 eM6 q7 => ?_)
  have rq8 := fk_up xrq_M4 eM6 (by decide)
  refine rr_iconst pf_128_39 ?_
  refine rr_istore_n pf_128_40 (fun y => [.ref 175, .int (iI (y))]) (Nat.le_of_ble_eq_true rfl) (fun _ => rfl) (fun y9 hy9 => ?_)
  obtain ⟨nz10, hnz10, rfl⟩ : ∃ zz : Nat, zz = 0 ∧ y9 = ((zz : Nat) : Int) := ⟨0, rfl, by omega⟩
  refine lp_Paper_findSets_41 (xs := xs) (L := L) (d := d) (by omega) hW hR hρ hlw hn hn8 (fun s_11  M12 q13 xrq_M12 xc_M12 xse_M12 => ?_) _ nz10 M6 rfl q7 (rq8) (by omega) (by intro k2 w2 a b; rw [eM6, ask_ne (by decide)]; exact xst_M4 k2 w2 a b) (by rw [show nz10 = 0 by omega, eM6, up_s]; rfl) (by intro t ht; exfalso; omega)
  refine rr_aload_n pf_128_88 rfl ?_
  refine vr_getI q13 pf_128_89 po_128 pg_2_56 rfl (ws_175 hW) (by decide) (fun x14 hx14 rx14 => ?_)
  refine rr_iret pf_128_92 pt_128 ⟨_, M12, rfl, rfl, q13, (by rw [hx14, xc_M12]), (xc_M12), (xse_M12), (xrq_M12)⟩
theorem ct_S_preached {xs : Nat → Int} {L d : Nat} {sh : List (Nat × Nat)} {M0 : Nat → Nat → Int} (hd : 9 ≤ d) (hW : px_W0 <+: sh) (hF : px_Fx M0) (hG : px_RG sh M0)  {ρ : Nat → Int} (hR : rc M0 3 = ρ) (hρ : sp_ok ρ) {lw : List sp_C} (hlw : px_lw sh M0 3 lw) {n : Nat} (hn : ρ 0 = ((n : Nat) : Int)) (hn8 : n ≤ 8) {i : Int} (hi0 : rg i) : ∃ v M, (px_qk sh [2, 13, 175, 176, 177] M0 M ∧ (v = sp_pch lw ρ i) ∧ (fk 175 [16] M0 M)) ∧ px_Cl xs L d 127 [.ref 0, .int (iI (i))] (sh, M0) (some (.int (iI v))) (sh, M) := by
  obtain ⟨d, rfl⟩ : ∃ e, d = e + 1 := ⟨d - 1, by omega⟩
  have q0 : px_qk sh [2, 13, 175, 176, 177] M0 M0 := ⟨hF, hG, eo_rf⟩
  have h2n := p2_b hn8
  have hcb := pcN_le lw ρ n (2 ^ n)
  have hpa := pc_at (lw := lw) (ρ := ρ) (n := n) i (2 ^ n)
  refine vc_i (Nat.le_of_ble_eq_true rfl) ?_
  show px_R xs L d 127 (0, [.ref 0, .int (iI (i)), px_jk], [], (sh, M0)) (fun r h' => ∃ v M', r = some (.int (iI v)) ∧ h' = (sh, M') ∧ px_qk sh [2, 13, 175, 176, 177] M0 M' ∧ v = sp_pch lw ρ i ∧ fk 175 [16] M0 M')
  refine rr_aload_n pf_127_0 rfl ?_
  refine rr_getR pf_127_1 po_127 pg_8_57 rfl (ws_0 hW) (by decide) (wr_0_7 q0.1) ?_
  obtain ⟨r3, M1, ⟨kq2, pv_M1, pc_M1, pse_M1, pf_M1⟩, hcM1⟩ := ct_Paper_findSets (xs := xs) (L := L) (d := d) (lw := lw) (n := n) (by omega) hW q0.1 q0.2.1 hR hρ hlw hn hn8
  have q2 := qk_trm q0 kq2 (by decide)
  have rq4 := fk_tr (fk_rf 175 [16] M0) pf_M1 (by decide)
  refine rr_cV0 pf_127_4 po_127 pc_8_290 (ws_175 hW) po_128 (by decide) rfl hcM1 ?_
  refine rr_istore_n pf_127_7 (fun y => [.ref 0, .int (iI (i)), .int (iI (y))]) (Nat.le_of_ble_eq_true rfl) (fun _ => rfl) (fun y5 hy5 => ?_)
  refine rr_iload_n pf_127_8 rfl ?_
  refine rr_iconst pf_127_9 ?_
  refine rr_icmp_ne 15 pf_127_10 (by decide) hi0 (by unfold rg; omega) (fun c6 => ?_) (fun c6 => ?_)
  · refine rr_iload_n pf_127_15 rfl ?_
    refine rr_iconst pf_127_16 ?_
    refine rr_iload_n pf_127_17 rfl ?_
    refine rr_iconst pf_127_18 ?_
    refine rr_isub pf_127_19 ?_
    refine rr_cS3 pf_127_20 po_127 pc_8_95 (by decide) rfl (ct_S_within (by omega) hi0 (by unfold rg; omega) (by unfold rg; omega)) ?_
    refine rr_ifb_eq 38 pf_127_23 (by decide) (fun c7 => ?_) (fun c7 => ?_)
    · refine rr_iconst pf_127_38 ?_
      refine rr_iret pf_127_39 pt_127 ⟨_, M1, rfl, rfl, q2, (by unfold sp_pch; rw [show (ρ 0).toNat = n by omega, if_neg (by omega), hpa.2 (by omega)]), (rq4)⟩
    · refine rr_aload_n pf_127_26 rfl ?_
      refine rr_getR pf_127_27 po_127 pg_8_57 rfl (ws_0 hW) (by decide) (wr_0_7 q2.1) ?_
      refine rr_getR pf_127_30 po_127 pg_8_293 rfl (ws_175 hW) (by decide) (wr_175_0 q2.1) ?_
      refine rr_iload_n pf_127_33 rfl ?_
      refine vr_iald (j := i.toNat) q2 pf_127_34 (ws_176 hW) (by omega) (by omega) (by decide) (fun x8 hx8 rx8 => ?_)
      obtain ⟨s, z1, z2, z3, z4⟩ := hpa.1 (by omega)
      have z5 := pse_M1 s z1 z2
      rw [show pcN lw ρ n s = i.toNat by omega, ← hx8] at z5
      refine rr_goto 39 pf_127_35 (by decide) ?_
      refine rr_iret pf_127_39 pt_127 ⟨_, M1, rfl, rfl, q2, (by unfold sp_pch; rw [show (ρ 0).toNat = n by omega, if_neg (by omega)]; omega), (rq4)⟩
  · refine rr_iload_n pf_127_13 rfl ?_
    refine rr_iret pf_127_14 pt_127 ⟨_, M1, rfl, rfl, q2, (by unfold sp_pch; rw [show (ρ 0).toNat = n by omega, if_pos (by omega)]; omega), (rq4)⟩

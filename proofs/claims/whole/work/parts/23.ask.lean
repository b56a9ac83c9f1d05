/-! a church's questions -/
theorem aw_rg' {p q : Int} (hp : 0 ≤ p ∧ p < 16) (hq : 0 ≤ q ∧ q < 16) : rg (aw p q) := by have := aw_rg hp hq; unfold rg; omega
theorem sp_env_eq {w hue force away row col r b g sp hour mood : Int} {f : Nat → Int} (h0 : f 0 = w) (h1 : f 1 = hue) (h2 : f 2 = force) (h3 : f 3 = away) (h4 : f 4 = row) (h5 : f 5 = col) (h6 : f 6 = r) (h7 : f 7 = b) (h8 : f 8 = g) (h9 : f 9 = sp) (h10 : f 10 = hour) (h11 : f 11 = mood) : ∀ j, j < 12 → f j = sp_env w hue force away row col r b g sp hour mood j := by
  intro j hj
  unfold sp_env
  match j, hj with
  | 0, _ => exact h0
  | 1, _ => exact h1
  | 2, _ => exact h2
  | 3, _ => exact h3
  | 4, _ => exact h4
  | 5, _ => exact h5
  | 6, _ => exact h6
  | 7, _ => exact h7
  | 8, _ => exact h8
  | 9, _ => exact h9
  | 10, _ => exact h10
  | 11, _ => exact h11
theorem sp_lt0 {n : Nat} (h : n < 0) : False := by omega
theorem ask_up {M : Nat → Nat → Int} {a i j : Nat} {x : Int} : px_up M a i x a j = if j = i then x else M a j := by unfold px_up; rw [if_pos rfl]
theorem ask_ne {M : Nat → Nat → Int} {a b i : Nat} {x : Int} (h : b ≠ a) : px_up M a i x b = M b := by funext j; unfold px_up; rw [if_neg h]
theorem ask_cp {M : Nat → Nat → Int} {a0 a1 sp dp m j : Nat} : px_copy M a0 sp a1 dp m a1 j = if dp ≤ j ∧ j < dp + m then M a0 (sp + (j - dp)) else M a1 j := by unfold px_copy px_cl; rw [if_pos rfl]
theorem ask_cl {M : Nat → Nat → Int} {a : Nat} {f : Nat → Int} : px_cl M a f a = f := px_cl_self
theorem ct_Church_ask_wp {xs : Nat → Int} {L d : Nat} {sh : List (Nat × Nat)} {M : Nat → Nat → Int} (hd : 3 ≤ d) (hW : px_W0 <+: sh) (hF : px_Fx M) (hG : px_RG sh M) {cb : Nat} (hcb : px_ch cb) (hρ : sp_ok (rc M cb)) {w : Nat} (hw : w < 8) {p : Nat} (hp : p < 16) : ∃ M', (px_qk sh (px_scr cb) M M' ∧ (∀ j, j < 12 → M' (cb + 10) j = sp_envS (rc M cb) w p j)) ∧ px_Cl xs L d 19 [.ref cb, .int (iI (((w : Nat) : Int))), .int (iI (((p : Nat) : Int)))] (sh, M) (none) (sh, M') := by
  obtain ⟨d, rfl⟩ : ∃ e, d = e + 1 := ⟨d - 1, by omega⟩
  have hcl := ch_lt hcb
  have hc3 : 3 ≤ cb := (show ∀ c ∈ px_chL, 3 ≤ c by decide +kernel) cb hcb
  have hpul : 0 ≤ M (cb + 1) 3 ∧ M (cb + 1) 3 < 16 := hρ.2.2.2.2.2.2.2.2.1
  refine px_Cl_m (P := fun M' => px_qk sh (px_scr cb) M M' ∧ (∀ j, j < 12 → M' (cb + 10) j = sp_envS (rc M cb) w p j)) (Nat.le_of_ble_eq_true rfl) ?_
  show px_R xs L d 19 (0, [.ref cb, .int (iI (((w : Nat) : Int))), .int (iI (((p : Nat) : Int)))], [], (sh, M)) _
  refine rr_aload_n pf_19_0 rfl ?_
  refine rr_getR pf_19_1 po_19 pg_0_59 rfl (cs_z hW hcb) (by decide) (cf_0_13 hF hcb) ?_
  refine rr_iconst pf_19_4 ?_
  obtain ⟨M1, eM1⟩ : ∃ m, m = px_cl M (cb + 10) (fun j => if j < 12 then (-1) else M (cb + 10) j) := ⟨_, rfl⟩
  have hcM1 : px_Cl xs L d 20 [.ref (cb + 10), .int (iI ((-1)))] (sh, M) none (sh, M1) := by rw [eM1]; exact ct_Arrays_fillI (by omega) (cs_10 hW hcb) (by decide) (by simp only [rg, rl] at *; omega)
  refine rr_cS2 pf_19_5 po_19 pc_0_115 (by decide) rfl hcM1 ?_
  have hF2 : px_Fx M1 := by rw [eM1]; exact fx_cl hW hF (cs_10 hW hcb) (by decide)
  have hG3 : px_RG sh M1 := by rw [eM1]; exact rg_cl hG (cs_10 hW hcb) (fun j => by split; exact (by simp only [rg, rl] at *; omega); exact rg_at hG (cs_10 hW hcb) (by rw [px_ty10]; decide))
  have hE4 : px_eo (px_scr cb) M M1 := eo_tr eo_rf (by rw [eM1]; exact eo_cl (by simp))
  refine rr_iload_n pf_19_8 rfl ?_
  refine rr_iconst pf_19_9 ?_
  refine rr_icmp_eq 44 pf_19_10 (by decide) (by simp only [rg, rl] at *; omega) (by simp only [rg, rl] at *; omega) (fun c5 => ?_) (fun c5 => ?_)
  · exfalso; omega
  · refine rr_aload_n pf_19_13 rfl ?_
    refine rr_getR pf_19_14 po_19 pg_0_59 rfl (cs_z hW hcb) (by decide) (cf_0_13 hF2 hcb) ?_
    refine rr_iconst pf_19_17 ?_
    refine rr_iload_n pf_19_18 rfl ?_
    refine rr_iast pf_19_19 (cs_10 hW hcb) (by omega) (by omega) (by simp only [rg, rl] at *; omega) (by simp only [rg, rl] at *; omega) (fun M6 eM6 => ?_)
    have hE7 : px_eo (px_scr cb) M M6 := eo_tr hE4 (by rw [eM6]; exact eo_up (by simp))
    have hF8 : px_Fx M6 := by rw [eM6]; exact fx_up hW hF2 (cs_10 hW hcb) (Or.inl (by rw [px_ty10]; decide))
    have hG9 : px_RG sh M6 := by rw [eM6]; exact rg_up hG3 (cs_10 hW hcb) (by rw [px_ty10]; decide) (by simp only [rg, rl] at *; omega)
    refine rr_aload_n pf_19_20 rfl ?_
    refine rr_getR pf_19_21 po_19 pg_0_59 rfl (cs_z hW hcb) (by decide) (cf_0_13 hF8 hcb) ?_
    refine rr_iconst pf_19_24 ?_
    refine rr_aload_n pf_19_25 rfl ?_
    refine rr_getR pf_19_26 po_19 pg_0_18 rfl (cs_z hW hcb) (by decide) (cf_0_1 hF8 hcb) ?_
    refine rr_iload_n pf_19_29 rfl ?_
    refine rr_iald pf_19_30 (cs_5 hW hcb) (by omega) (by omega) (by simp only [rg, rl] at *; omega) ?_
    refine rr_iast pf_19_31 (cs_10 hW hcb) (by omega) (by omega) (by simp only [rg, rl] at *; omega) (rg_at hG9 (cs_5 hW hcb) (by rw [px_ty10]; decide)) (fun M10 eM10 => ?_)
    have hE11 : px_eo (px_scr cb) M M10 := eo_tr hE7 (by rw [eM10]; exact eo_up (by simp))
    have hF12 : px_Fx M10 := by rw [eM10]; exact fx_up hW hF8 (cs_10 hW hcb) (Or.inl (by rw [px_ty10]; decide))
    have hG13 : px_RG sh M10 := by rw [eM10]; exact rg_up hG9 (cs_10 hW hcb) (by rw [px_ty10]; decide) (rg_at hG9 (cs_5 hW hcb) (by rw [px_ty10]; decide))
    refine rr_aload_n pf_19_32 rfl ?_
    refine rr_getR pf_19_33 po_19 pg_0_59 rfl (cs_z hW hcb) (by decide) (cf_0_13 hF12 hcb) ?_
    refine rr_iconst pf_19_36 ?_
    refine rr_aload_n pf_19_37 rfl ?_
    refine rr_getR pf_19_38 po_19 pg_0_22 rfl (cs_z hW hcb) (by decide) (cf_0_2 hF12 hcb) ?_
    refine rr_iload_n pf_19_41 rfl ?_
    refine rr_iald pf_19_42 (cs_6 hW hcb) (by omega) (by omega) (by simp only [rg, rl] at *; omega) ?_
    refine rr_iast pf_19_43 (cs_10 hW hcb) (by omega) (by omega) (by simp only [rg, rl] at *; omega) (rg_at hG13 (cs_6 hW hcb) (by rw [px_ty10]; decide)) (fun M14 eM14 => ?_)
    have hE15 : px_eo (px_scr cb) M M14 := eo_tr hE11 (by rw [eM14]; exact eo_up (by simp))
    have hF16 : px_Fx M14 := by rw [eM14]; exact fx_up hW hF12 (cs_10 hW hcb) (Or.inl (by rw [px_ty10]; decide))
    have hG17 : px_RG sh M14 := by rw [eM14]; exact rg_up hG13 (cs_10 hW hcb) (by rw [px_ty10]; decide) (rg_at hG13 (cs_6 hW hcb) (by rw [px_ty10]; decide))
    refine rr_iload_n pf_19_44 rfl ?_
    refine rr_iconst pf_19_45 ?_
    refine rr_icmp_eq 104 pf_19_46 (by decide) (by simp only [rg, rl] at *; omega) (by simp only [rg, rl] at *; omega) (fun c18 => ?_) (fun c18 => ?_)
    · exfalso; omega
    · refine rr_aload_n pf_19_49 rfl ?_
      refine rr_getR pf_19_50 po_19 pg_0_59 rfl (cs_z hW hcb) (by decide) (cf_0_13 hF16 hcb) ?_
      refine rr_iconst pf_19_53 ?_
      have hpu2 : 0 ≤ M14 (cb + 1) 3 ∧ M14 (cb + 1) 3 < 16 := by rw [hE15 (cb + 1) (by simp; omega)]; exact hpul
      have haw := aw_rg (p := (p : Int)) ⟨by omega, by omega⟩ hpu2
      refine rr_iload_n pf_19_54 rfl ?_
      refine rr_aload_n pf_19_55 rfl ?_
      refine rr_getR pf_19_56 po_19 pg_0_12 rfl (cs_z hW hcb) (by decide) (cf_0_0 hF16 hcb) ?_
      refine rr_getI pf_19_59 po_19 pg_0_86 rfl (cs_1 hW hcb) (by decide) ?_
      refine rr_cS2 pf_19_62 po_19 pc_0_89 (by decide) rfl (ct_S_distance (by omega) (by omega) (by omega)) ?_
      refine rr_iast pf_19_65 (cs_10 hW hcb) (by omega) (by omega) (by simp only [rg, rl] at *; omega) (by simp only [rg, rl] at *; omega) (fun M19 eM19 => ?_)
      have hE20 : px_eo (px_scr cb) M M19 := eo_tr hE15 (by rw [eM19]; exact eo_up (by simp))
      have hF21 : px_Fx M19 := by rw [eM19]; exact fx_up hW hF16 (cs_10 hW hcb) (Or.inl (by rw [px_ty10]; decide))
      have hG22 : px_RG sh M19 := by rw [eM19]; exact rg_up hG17 (cs_10 hW hcb) (by rw [px_ty10]; decide) (by simp only [rg, rl] at *; omega)
      refine rr_aload_n pf_19_66 rfl ?_
      refine rr_getR pf_19_67 po_19 pg_0_59 rfl (cs_z hW hcb) (by decide) (cf_0_13 hF21 hcb) ?_
      refine rr_iconst pf_19_70 ?_
      refine rr_iload_n pf_19_71 rfl ?_
      refine rr_iconst pf_19_72 ?_
      refine rr_idivP pf_19_73 (by simp only [rg, rl] at *; omega) (by simp only [rg, rl] at *; omega) (by omega) (by omega) ?_
      refine rr_iast pf_19_74 (cs_10 hW hcb) (by omega) (by omega) (by simp only [rg, rl] at *; omega) (by simp only [rg, rl] at *; omega) (fun M23 eM23 => ?_)
      have hE24 : px_eo (px_scr cb) M M23 := eo_tr hE20 (by rw [eM23]; exact eo_up (by simp))
      have hF25 : px_Fx M23 := by rw [eM23]; exact fx_up hW hF21 (cs_10 hW hcb) (Or.inl (by rw [px_ty10]; decide))
      have hG26 : px_RG sh M23 := by rw [eM23]; exact rg_up hG22 (cs_10 hW hcb) (by rw [px_ty10]; decide) (by simp only [rg, rl] at *; omega)
      refine rr_aload_n pf_19_75 rfl ?_
      refine rr_getR pf_19_76 po_19 pg_0_59 rfl (cs_z hW hcb) (by decide) (cf_0_13 hF25 hcb) ?_
      refine rr_iconst pf_19_79 ?_
      refine rr_iload_n pf_19_80 rfl ?_
      refine rr_iconst pf_19_81 ?_
      refine rr_iremP pf_19_82 (by simp only [rg, rl] at *; omega) (by simp only [rg, rl] at *; omega) (by omega) (by omega) ?_
      refine rr_iast pf_19_83 (cs_10 hW hcb) (by omega) (by omega) (by simp only [rg, rl] at *; omega) (by simp only [rg, rl] at *; omega) (fun M27 eM27 => ?_)
      have hE28 : px_eo (px_scr cb) M M27 := eo_tr hE24 (by rw [eM27]; exact eo_up (by simp))
      have hF29 : px_Fx M27 := by rw [eM27]; exact fx_up hW hF25 (cs_10 hW hcb) (Or.inl (by rw [px_ty10]; decide))
      have hG30 : px_RG sh M27 := by rw [eM27]; exact rg_up hG26 (cs_10 hW hcb) (by rw [px_ty10]; decide) (by simp only [rg, rl] at *; omega)
      refine rr_aload_n pf_19_84 rfl ?_
      refine rr_getR pf_19_85 po_19 pg_0_12 rfl (cs_z hW hcb) (by decide) (cf_0_0 hF29 hcb) ?_
      refine rr_getR pf_19_88 po_19 pg_0_133 rfl (cs_1 hW hcb) (by decide) (cf_1_0 hF29 hcb) ?_
      refine rr_iload_n pf_19_91 rfl ?_
      refine rr_iconst pf_19_92 ?_
      refine rr_imul pf_19_93 ?_
      refine rr_aload_n pf_19_94 rfl ?_
      refine rr_getR pf_19_95 po_19 pg_0_59 rfl (cs_z hW hcb) (by decide) (cf_0_13 hF29 hcb) ?_
      refine rr_bipush pf_19_98 (by decide) ?_
      refine rr_iconst pf_19_100 ?_
      refine rr_copy pf_19_101 po_19 pc_0_70 rfl (cs_2 hW hcb) (cs_10 hW hcb) (by omega) (by omega) (by omega) (by omega) (by omega) ⟨by unfold rg; omega, by unfold rg; omega, by unfold rg; omega⟩ (fun M31 eM31 => ?_)
      have hF32 : px_Fx M31 := by rw [eM31]; exact fx_cl hW hF29 (cs_10 hW hcb) (by decide)
      have hG33 : px_RG sh M31 := by rw [eM31]; exact rg_copy hG30 (cs_2 hW hcb) (cs_10 hW hcb)
      have hE34 : px_eo (px_scr cb) M M31 := eo_tr hE28 (by rw [eM31]; exact eo_cl (by simp))
      refine rr_aload_n pf_19_104 rfl ?_
      refine rr_getR pf_19_105 po_19 pg_0_59 rfl (cs_z hW hcb) (by decide) (cf_0_13 hF32 hcb) ?_
      refine rr_bipush pf_19_108 (by decide) ?_
      refine rr_aload_n pf_19_110 rfl ?_
      refine rr_getR pf_19_111 po_19 pg_0_12 rfl (cs_z hW hcb) (by decide) (cf_0_0 hF32 hcb) ?_
      refine rr_getI pf_19_114 po_19 pg_0_83 rfl (cs_1 hW hcb) (by decide) ?_
      refine rr_iast pf_19_117 (cs_10 hW hcb) (by omega) (by omega) (by simp only [rg, rl] at *; omega) (rg_at hG33 (cs_1 hW hcb) (by decide)) (fun M35 eM35 => ?_)
      have hE36 : px_eo (px_scr cb) M M35 := eo_tr hE34 (by rw [eM35]; exact eo_up (by simp))
      have hF37 : px_Fx M35 := by rw [eM35]; exact fx_up hW hF32 (cs_10 hW hcb) (Or.inl (by rw [px_ty10]; decide))
      have hG38 : px_RG sh M35 := by rw [eM35]; exact rg_up hG33 (cs_10 hW hcb) (by rw [px_ty10]; decide) (rg_at hG33 (cs_1 hW hcb) (by decide))
      refine rr_aload_n pf_19_118 rfl ?_
      refine rr_getR pf_19_119 po_19 pg_0_59 rfl (cs_z hW hcb) (by decide) (cf_0_13 hF37 hcb) ?_
      refine rr_bipush pf_19_122 (by decide) ?_
      refine rr_aload_n pf_19_124 rfl ?_
      refine rr_getI pf_19_125 po_19 pg_0_56 rfl (cs_z hW hcb) (by decide) ?_
      refine rr_iast pf_19_128 (cs_10 hW hcb) (by omega) (by omega) (by simp only [rg, rl] at *; omega) (rg_at hG38 (cs_z hW hcb) (by decide)) (fun M39 eM39 => ?_)
      have hE40 : px_eo (px_scr cb) M M39 := eo_tr hE36 (by rw [eM39]; exact eo_up (by simp))
      have hF41 : px_Fx M39 := by rw [eM39]; exact fx_up hW hF37 (cs_10 hW hcb) (Or.inl (by rw [px_ty10]; decide))
      have hG42 : px_RG sh M39 := by rw [eM39]; exact rg_up hG38 (cs_10 hW hcb) (by rw [px_ty10]; decide) (rg_at hG38 (cs_z hW hcb) (by decide))
      refine rr_vret pf_19_129 pt_19 ⟨rfl, _, rfl, ⟨hF41, hG42, hE40⟩, by unfold sp_envS; exact sp_env_eq (by rw [eM39, ask_up, if_neg (by decide), eM35, ask_up, if_neg (by decide), eM31, ask_cp, if_neg (by decide), eM27, ask_up, if_neg (by decide), eM23, ask_up, if_neg (by decide), eM19, ask_up, if_neg (by decide), eM14, ask_up, if_neg (by decide), eM10, ask_up, if_neg (by decide), eM6, ask_up, if_pos (by decide)]) (by rw [eM39, ask_up, if_neg (by decide), eM35, ask_up, if_neg (by decide), eM31, ask_cp, if_neg (by decide), eM27, ask_up, if_neg (by decide), eM23, ask_up, if_neg (by decide), eM19, ask_up, if_neg (by decide), eM14, ask_up, if_neg (by decide), eM10, ask_up, if_pos (by decide)]; rw [hE7 (cb + 5) (by simp), Int.toNat_natCast]; exact (rc_wh hw).symm) (by rw [eM39, ask_up, if_neg (by decide), eM35, ask_up, if_neg (by decide), eM31, ask_cp, if_neg (by decide), eM27, ask_up, if_neg (by decide), eM23, ask_up, if_neg (by decide), eM19, ask_up, if_neg (by decide), eM14, ask_up, if_pos (by decide)]; rw [hE11 (cb + 6) (by simp), Int.toNat_natCast]; exact (rc_wf hw).symm) (by rw [eM39, ask_up, if_neg (by decide), eM35, ask_up, if_neg (by decide), eM31, ask_cp, if_neg (by decide), eM27, ask_up, if_neg (by decide), eM23, ask_up, if_neg (by decide), eM19, ask_up, if_pos (by decide)]; rw [hE15 (cb + 1) (by simp; omega)]; rfl) (by rw [eM39, ask_up, if_neg (by decide), eM35, ask_up, if_neg (by decide), eM31, ask_cp, if_neg (by decide), eM27, ask_up, if_neg (by decide), eM23, ask_up, if_pos (by decide)]) (by rw [eM39, ask_up, if_neg (by decide), eM35, ask_up, if_neg (by decide), eM31, ask_cp, if_neg (by decide), eM27, ask_up, if_pos (by decide)]) (by rw [eM39, ask_up, if_neg (by decide), eM35, ask_up, if_neg (by decide), eM31, ask_cp, if_pos (by decide)]; rw [hE28 (cb + 2) (by simp; omega)]; unfold sp_hue; rw [rc_hue (by omega)]; congr 1; omega) (by rw [eM39, ask_up, if_neg (by decide), eM35, ask_up, if_neg (by decide), eM31, ask_cp, if_pos (by decide)]; rw [hE28 (cb + 2) (by simp; omega)]; unfold sp_hue; rw [rc_hue (by omega)]; congr 1; omega) (by rw [eM39, ask_up, if_neg (by decide), eM35, ask_up, if_neg (by decide), eM31, ask_cp, if_pos (by decide)]; rw [hE28 (cb + 2) (by simp; omega)]; unfold sp_hue; rw [rc_hue (by omega)]; congr 1; omega) (by rw [eM39, ask_up, if_neg (by decide), eM35, ask_up, if_neg (by decide), eM31, ask_cp, if_neg (by decide), eM27, ask_up, if_neg (by decide), eM23, ask_up, if_neg (by decide), eM19, ask_up, if_neg (by decide), eM14, ask_up, if_neg (by decide), eM10, ask_up, if_neg (by decide), eM6, ask_up, if_neg (by decide), eM1, ask_cl, if_pos (by decide)]) (by rw [eM39, ask_up, if_neg (by decide), eM35, ask_up, if_pos (by decide)]; rw [hE34 (cb + 1) (by simp; omega)]; rfl) (by rw [eM39, ask_up, if_pos (by decide)]; rw [hE36 cb (by simp; omega)]; rfl)⟩
theorem ct_Church_ask_w {xs : Nat → Int} {L d : Nat} {sh : List (Nat × Nat)} {M : Nat → Nat → Int} (hd : 3 ≤ d) (hW : px_W0 <+: sh) (hF : px_Fx M) (hG : px_RG sh M) {cb : Nat} (hcb : px_ch cb) (hρ : sp_ok (rc M cb)) {w : Nat} (hw : w < 8) : ∃ M', (px_qk sh (px_scr cb) M M' ∧ (∀ j, j < 12 → M' (cb + 10) j = sp_envR (rc M cb) w j)) ∧ px_Cl xs L d 19 [.ref cb, .int (iI (((w : Nat) : Int))), .int (iI (-1))] (sh, M) (none) (sh, M') := by
  obtain ⟨d, rfl⟩ : ∃ e, d = e + 1 := ⟨d - 1, by omega⟩
  have hcl := ch_lt hcb
  have hc3 : 3 ≤ cb := (show ∀ c ∈ px_chL, 3 ≤ c by decide +kernel) cb hcb
  have hpul : 0 ≤ M (cb + 1) 3 ∧ M (cb + 1) 3 < 16 := hρ.2.2.2.2.2.2.2.2.1
  refine px_Cl_m (P := fun M' => px_qk sh (px_scr cb) M M' ∧ (∀ j, j < 12 → M' (cb + 10) j = sp_envR (rc M cb) w j)) (Nat.le_of_ble_eq_true rfl) ?_
  show px_R xs L d 19 (0, [.ref cb, .int (iI (((w : Nat) : Int))), .int (iI (-1))], [], (sh, M)) _
  refine rr_aload_n pf_19_0 rfl ?_
  refine rr_getR pf_19_1 po_19 pg_0_59 rfl (cs_z hW hcb) (by decide) (cf_0_13 hF hcb) ?_
  refine rr_iconst pf_19_4 ?_
  obtain ⟨M1, eM1⟩ : ∃ m, m = px_cl M (cb + 10) (fun j => if j < 12 then (-1) else M (cb + 10) j) := ⟨_, rfl⟩
  have hcM1 : px_Cl xs L d 20 [.ref (cb + 10), .int (iI ((-1)))] (sh, M) none (sh, M1) := by rw [eM1]; exact ct_Arrays_fillI (by omega) (cs_10 hW hcb) (by decide) (by simp only [rg, rl] at *; omega)
  refine rr_cS2 pf_19_5 po_19 pc_0_115 (by decide) rfl hcM1 ?_
  have hF2 : px_Fx M1 := by rw [eM1]; exact fx_cl hW hF (cs_10 hW hcb) (by decide)
  have hG3 : px_RG sh M1 := by rw [eM1]; exact rg_cl hG (cs_10 hW hcb) (fun j => by split; exact (by simp only [rg, rl] at *; omega); exact rg_at hG (cs_10 hW hcb) (by rw [px_ty10]; decide))
  have hE4 : px_eo (px_scr cb) M M1 := eo_tr eo_rf (by rw [eM1]; exact eo_cl (by simp))
  refine rr_iload_n pf_19_8 rfl ?_
  refine rr_iconst pf_19_9 ?_
  refine rr_icmp_eq 44 pf_19_10 (by decide) (by simp only [rg, rl] at *; omega) (by simp only [rg, rl] at *; omega) (fun c5 => ?_) (fun c5 => ?_)
  · exfalso; omega
  · refine rr_aload_n pf_19_13 rfl ?_
    refine rr_getR pf_19_14 po_19 pg_0_59 rfl (cs_z hW hcb) (by decide) (cf_0_13 hF2 hcb) ?_
    refine rr_iconst pf_19_17 ?_
    refine rr_iload_n pf_19_18 rfl ?_
    refine rr_iast pf_19_19 (cs_10 hW hcb) (by omega) (by omega) (by simp only [rg, rl] at *; omega) (by simp only [rg, rl] at *; omega) (fun M6 eM6 => ?_)
    have hE7 : px_eo (px_scr cb) M M6 := eo_tr hE4 (by rw [eM6]; exact eo_up (by simp))
    have hF8 : px_Fx M6 := by rw [eM6]; exact fx_up hW hF2 (cs_10 hW hcb) (Or.inl (by rw [px_ty10]; decide))
    have hG9 : px_RG sh M6 := by rw [eM6]; exact rg_up hG3 (cs_10 hW hcb) (by rw [px_ty10]; decide) (by simp only [rg, rl] at *; omega)
    refine rr_aload_n pf_19_20 rfl ?_
    refine rr_getR pf_19_21 po_19 pg_0_59 rfl (cs_z hW hcb) (by decide) (cf_0_13 hF8 hcb) ?_
    refine rr_iconst pf_19_24 ?_
    refine rr_aload_n pf_19_25 rfl ?_
    refine rr_getR pf_19_26 po_19 pg_0_18 rfl (cs_z hW hcb) (by decide) (cf_0_1 hF8 hcb) ?_
    refine rr_iload_n pf_19_29 rfl ?_
    refine rr_iald pf_19_30 (cs_5 hW hcb) (by omega) (by omega) (by simp only [rg, rl] at *; omega) ?_
    refine rr_iast pf_19_31 (cs_10 hW hcb) (by omega) (by omega) (by simp only [rg, rl] at *; omega) (rg_at hG9 (cs_5 hW hcb) (by rw [px_ty10]; decide)) (fun M10 eM10 => ?_)
    have hE11 : px_eo (px_scr cb) M M10 := eo_tr hE7 (by rw [eM10]; exact eo_up (by simp))
    have hF12 : px_Fx M10 := by rw [eM10]; exact fx_up hW hF8 (cs_10 hW hcb) (Or.inl (by rw [px_ty10]; decide))
    have hG13 : px_RG sh M10 := by rw [eM10]; exact rg_up hG9 (cs_10 hW hcb) (by rw [px_ty10]; decide) (rg_at hG9 (cs_5 hW hcb) (by rw [px_ty10]; decide))
    refine rr_aload_n pf_19_32 rfl ?_
    refine rr_getR pf_19_33 po_19 pg_0_59 rfl (cs_z hW hcb) (by decide) (cf_0_13 hF12 hcb) ?_
    refine rr_iconst pf_19_36 ?_
    refine rr_aload_n pf_19_37 rfl ?_
    refine rr_getR pf_19_38 po_19 pg_0_22 rfl (cs_z hW hcb) (by decide) (cf_0_2 hF12 hcb) ?_
    refine rr_iload_n pf_19_41 rfl ?_
    refine rr_iald pf_19_42 (cs_6 hW hcb) (by omega) (by omega) (by simp only [rg, rl] at *; omega) ?_
    refine rr_iast pf_19_43 (cs_10 hW hcb) (by omega) (by omega) (by simp only [rg, rl] at *; omega) (rg_at hG13 (cs_6 hW hcb) (by rw [px_ty10]; decide)) (fun M14 eM14 => ?_)
    have hE15 : px_eo (px_scr cb) M M14 := eo_tr hE11 (by rw [eM14]; exact eo_up (by simp))
    have hF16 : px_Fx M14 := by rw [eM14]; exact fx_up hW hF12 (cs_10 hW hcb) (Or.inl (by rw [px_ty10]; decide))
    have hG17 : px_RG sh M14 := by rw [eM14]; exact rg_up hG13 (cs_10 hW hcb) (by rw [px_ty10]; decide) (rg_at hG13 (cs_6 hW hcb) (by rw [px_ty10]; decide))
    refine rr_iload_n pf_19_44 rfl ?_
    refine rr_iconst pf_19_45 ?_
    refine rr_icmp_eq 104 pf_19_46 (by decide) (by simp only [rg, rl] at *; omega) (by simp only [rg, rl] at *; omega) (fun c18 => ?_) (fun c18 => ?_)
    · refine rr_aload_n pf_19_104 rfl ?_
      refine rr_getR pf_19_105 po_19 pg_0_59 rfl (cs_z hW hcb) (by decide) (cf_0_13 hF16 hcb) ?_
      refine rr_bipush pf_19_108 (by decide) ?_
      refine rr_aload_n pf_19_110 rfl ?_
      refine rr_getR pf_19_111 po_19 pg_0_12 rfl (cs_z hW hcb) (by decide) (cf_0_0 hF16 hcb) ?_
      refine rr_getI pf_19_114 po_19 pg_0_83 rfl (cs_1 hW hcb) (by decide) ?_
      refine rr_iast pf_19_117 (cs_10 hW hcb) (by omega) (by omega) (by simp only [rg, rl] at *; omega) (rg_at hG17 (cs_1 hW hcb) (by decide)) (fun M19 eM19 => ?_)
      have hE20 : px_eo (px_scr cb) M M19 := eo_tr hE15 (by rw [eM19]; exact eo_up (by simp))
      have hF21 : px_Fx M19 := by rw [eM19]; exact fx_up hW hF16 (cs_10 hW hcb) (Or.inl (by rw [px_ty10]; decide))
      have hG22 : px_RG sh M19 := by rw [eM19]; exact rg_up hG17 (cs_10 hW hcb) (by rw [px_ty10]; decide) (rg_at hG17 (cs_1 hW hcb) (by decide))
      refine rr_aload_n pf_19_118 rfl ?_
      refine rr_getR pf_19_119 po_19 pg_0_59 rfl (cs_z hW hcb) (by decide) (cf_0_13 hF21 hcb) ?_
      refine rr_bipush pf_19_122 (by decide) ?_
      refine rr_aload_n pf_19_124 rfl ?_
      refine rr_getI pf_19_125 po_19 pg_0_56 rfl (cs_z hW hcb) (by decide) ?_
      refine rr_iast pf_19_128 (cs_10 hW hcb) (by omega) (by omega) (by simp only [rg, rl] at *; omega) (rg_at hG22 (cs_z hW hcb) (by decide)) (fun M23 eM23 => ?_)
      have hE24 : px_eo (px_scr cb) M M23 := eo_tr hE20 (by rw [eM23]; exact eo_up (by simp))
      have hF25 : px_Fx M23 := by rw [eM23]; exact fx_up hW hF21 (cs_10 hW hcb) (Or.inl (by rw [px_ty10]; decide))
      have hG26 : px_RG sh M23 := by rw [eM23]; exact rg_up hG22 (cs_10 hW hcb) (by rw [px_ty10]; decide) (rg_at hG22 (cs_z hW hcb) (by decide))
      refine rr_vret pf_19_129 pt_19 ⟨rfl, _, rfl, ⟨hF25, hG26, hE24⟩, by unfold sp_envR; exact sp_env_eq (by rw [eM23, ask_up, if_neg (by decide), eM19, ask_up, if_neg (by decide), eM14, ask_up, if_neg (by decide), eM10, ask_up, if_neg (by decide), eM6, ask_up, if_pos (by decide)]) (by rw [eM23, ask_up, if_neg (by decide), eM19, ask_up, if_neg (by decide), eM14, ask_up, if_neg (by decide), eM10, ask_up, if_pos (by decide)]; rw [hE7 (cb + 5) (by simp), Int.toNat_natCast]; exact (rc_wh hw).symm) (by rw [eM23, ask_up, if_neg (by decide), eM19, ask_up, if_neg (by decide), eM14, ask_up, if_pos (by decide)]; rw [hE11 (cb + 6) (by simp), Int.toNat_natCast]; exact (rc_wf hw).symm) (by rw [eM23, ask_up, if_neg (by decide), eM19, ask_up, if_neg (by decide), eM14, ask_up, if_neg (by decide), eM10, ask_up, if_neg (by decide), eM6, ask_up, if_neg (by decide), eM1, ask_cl, if_pos (by decide)]) (by rw [eM23, ask_up, if_neg (by decide), eM19, ask_up, if_neg (by decide), eM14, ask_up, if_neg (by decide), eM10, ask_up, if_neg (by decide), eM6, ask_up, if_neg (by decide), eM1, ask_cl, if_pos (by decide)]) (by rw [eM23, ask_up, if_neg (by decide), eM19, ask_up, if_neg (by decide), eM14, ask_up, if_neg (by decide), eM10, ask_up, if_neg (by decide), eM6, ask_up, if_neg (by decide), eM1, ask_cl, if_pos (by decide)]) (by rw [eM23, ask_up, if_neg (by decide), eM19, ask_up, if_neg (by decide), eM14, ask_up, if_neg (by decide), eM10, ask_up, if_neg (by decide), eM6, ask_up, if_neg (by decide), eM1, ask_cl, if_pos (by decide)]) (by rw [eM23, ask_up, if_neg (by decide), eM19, ask_up, if_neg (by decide), eM14, ask_up, if_neg (by decide), eM10, ask_up, if_neg (by decide), eM6, ask_up, if_neg (by decide), eM1, ask_cl, if_pos (by decide)]) (by rw [eM23, ask_up, if_neg (by decide), eM19, ask_up, if_neg (by decide), eM14, ask_up, if_neg (by decide), eM10, ask_up, if_neg (by decide), eM6, ask_up, if_neg (by decide), eM1, ask_cl, if_pos (by decide)]) (by rw [eM23, ask_up, if_neg (by decide), eM19, ask_up, if_neg (by decide), eM14, ask_up, if_neg (by decide), eM10, ask_up, if_neg (by decide), eM6, ask_up, if_neg (by decide), eM1, ask_cl, if_pos (by decide)]) (by rw [eM23, ask_up, if_neg (by decide), eM19, ask_up, if_pos (by decide)]; rw [hE15 (cb + 1) (by simp; omega)]; rfl) (by rw [eM23, ask_up, if_pos (by decide)]; rw [hE20 cb (by simp; omega)]; rfl)⟩
    · exfalso; omega
theorem ct_Church_ask_p {xs : Nat → Int} {L d : Nat} {sh : List (Nat × Nat)} {M : Nat → Nat → Int} (hd : 3 ≤ d) (hW : px_W0 <+: sh) (hF : px_Fx M) (hG : px_RG sh M) {cb : Nat} (hcb : px_ch cb) (hρ : sp_ok (rc M cb)) {p : Nat} (hp : p < 16) : ∃ M', (px_qk sh (px_scr cb) M M' ∧ (∀ j, j < 12 → M' (cb + 10) j = sp_envB (rc M cb) p j)) ∧ px_Cl xs L d 19 [.ref cb, .int (iI (-1)), .int (iI (((p : Nat) : Int)))] (sh, M) (none) (sh, M') := by
  obtain ⟨d, rfl⟩ : ∃ e, d = e + 1 := ⟨d - 1, by omega⟩
  have hcl := ch_lt hcb
  have hc3 : 3 ≤ cb := (show ∀ c ∈ px_chL, 3 ≤ c by decide +kernel) cb hcb
  have hpul : 0 ≤ M (cb + 1) 3 ∧ M (cb + 1) 3 < 16 := hρ.2.2.2.2.2.2.2.2.1
  refine px_Cl_m (P := fun M' => px_qk sh (px_scr cb) M M' ∧ (∀ j, j < 12 → M' (cb + 10) j = sp_envB (rc M cb) p j)) (Nat.le_of_ble_eq_true rfl) ?_
  show px_R xs L d 19 (0, [.ref cb, .int (iI (-1)), .int (iI (((p : Nat) : Int)))], [], (sh, M)) _
  refine rr_aload_n pf_19_0 rfl ?_
  refine rr_getR pf_19_1 po_19 pg_0_59 rfl (cs_z hW hcb) (by decide) (cf_0_13 hF hcb) ?_
  refine rr_iconst pf_19_4 ?_
  obtain ⟨M1, eM1⟩ : ∃ m, m = px_cl M (cb + 10) (fun j => if j < 12 then (-1) else M (cb + 10) j) := ⟨_, rfl⟩
  have hcM1 : px_Cl xs L d 20 [.ref (cb + 10), .int (iI ((-1)))] (sh, M) none (sh, M1) := by rw [eM1]; exact ct_Arrays_fillI (by omega) (cs_10 hW hcb) (by decide) (by simp only [rg, rl] at *; omega)
  refine rr_cS2 pf_19_5 po_19 pc_0_115 (by decide) rfl hcM1 ?_
  have hF2 : px_Fx M1 := by rw [eM1]; exact fx_cl hW hF (cs_10 hW hcb) (by decide)
  have hG3 : px_RG sh M1 := by rw [eM1]; exact rg_cl hG (cs_10 hW hcb) (fun j => by split; exact (by simp only [rg, rl] at *; omega); exact rg_at hG (cs_10 hW hcb) (by rw [px_ty10]; decide))
  have hE4 : px_eo (px_scr cb) M M1 := eo_tr eo_rf (by rw [eM1]; exact eo_cl (by simp))
  refine rr_iload_n pf_19_8 rfl ?_
  refine rr_iconst pf_19_9 ?_
  refine rr_icmp_eq 44 pf_19_10 (by decide) (by simp only [rg, rl] at *; omega) (by simp only [rg, rl] at *; omega) (fun c5 => ?_) (fun c5 => ?_)
  · refine rr_iload_n pf_19_44 rfl ?_
    refine rr_iconst pf_19_45 ?_
    refine rr_icmp_eq 104 pf_19_46 (by decide) (by simp only [rg, rl] at *; omega) (by simp only [rg, rl] at *; omega) (fun c6 => ?_) (fun c6 => ?_)
    · exfalso; omega
    · refine rr_aload_n pf_19_49 rfl ?_
      refine rr_getR pf_19_50 po_19 pg_0_59 rfl (cs_z hW hcb) (by decide) (cf_0_13 hF2 hcb) ?_
      refine rr_iconst pf_19_53 ?_
      have hpu2 : 0 ≤ M1 (cb + 1) 3 ∧ M1 (cb + 1) 3 < 16 := by rw [hE4 (cb + 1) (by simp; omega)]; exact hpul
      have haw := aw_rg (p := (p : Int)) ⟨by omega, by omega⟩ hpu2
      refine rr_iload_n pf_19_54 rfl ?_
      refine rr_aload_n pf_19_55 rfl ?_
      refine rr_getR pf_19_56 po_19 pg_0_12 rfl (cs_z hW hcb) (by decide) (cf_0_0 hF2 hcb) ?_
      refine rr_getI pf_19_59 po_19 pg_0_86 rfl (cs_1 hW hcb) (by decide) ?_
      refine rr_cS2 pf_19_62 po_19 pc_0_89 (by decide) rfl (ct_S_distance (by omega) (by omega) (by omega)) ?_
      refine rr_iast pf_19_65 (cs_10 hW hcb) (by omega) (by omega) (by simp only [rg, rl] at *; omega) (by simp only [rg, rl] at *; omega) (fun M7 eM7 => ?_)
      have hE8 : px_eo (px_scr cb) M M7 := eo_tr hE4 (by rw [eM7]; exact eo_up (by simp))
      have hF9 : px_Fx M7 := by rw [eM7]; exact fx_up hW hF2 (cs_10 hW hcb) (Or.inl (by rw [px_ty10]; decide))
      have hG10 : px_RG sh M7 := by rw [eM7]; exact rg_up hG3 (cs_10 hW hcb) (by rw [px_ty10]; decide) (by simp only [rg, rl] at *; omega)
      refine rr_aload_n pf_19_66 rfl ?_
      refine rr_getR pf_19_67 po_19 pg_0_59 rfl (cs_z hW hcb) (by decide) (cf_0_13 hF9 hcb) ?_
      refine rr_iconst pf_19_70 ?_
      refine rr_iload_n pf_19_71 rfl ?_
      refine rr_iconst pf_19_72 ?_
      refine rr_idivP pf_19_73 (by simp only [rg, rl] at *; omega) (by simp only [rg, rl] at *; omega) (by omega) (by omega) ?_
      refine rr_iast pf_19_74 (cs_10 hW hcb) (by omega) (by omega) (by simp only [rg, rl] at *; omega) (by simp only [rg, rl] at *; omega) (fun M11 eM11 => ?_)
      have hE12 : px_eo (px_scr cb) M M11 := eo_tr hE8 (by rw [eM11]; exact eo_up (by simp))
      have hF13 : px_Fx M11 := by rw [eM11]; exact fx_up hW hF9 (cs_10 hW hcb) (Or.inl (by rw [px_ty10]; decide))
      have hG14 : px_RG sh M11 := by rw [eM11]; exact rg_up hG10 (cs_10 hW hcb) (by rw [px_ty10]; decide) (by simp only [rg, rl] at *; omega)
      refine rr_aload_n pf_19_75 rfl ?_
      refine rr_getR pf_19_76 po_19 pg_0_59 rfl (cs_z hW hcb) (by decide) (cf_0_13 hF13 hcb) ?_
      refine rr_iconst pf_19_79 ?_
      refine rr_iload_n pf_19_80 rfl ?_
      refine rr_iconst pf_19_81 ?_
      refine rr_iremP pf_19_82 (by simp only [rg, rl] at *; omega) (by simp only [rg, rl] at *; omega) (by omega) (by omega) ?_
      refine rr_iast pf_19_83 (cs_10 hW hcb) (by omega) (by omega) (by simp only [rg, rl] at *; omega) (by simp only [rg, rl] at *; omega) (fun M15 eM15 => ?_)
      have hE16 : px_eo (px_scr cb) M M15 := eo_tr hE12 (by rw [eM15]; exact eo_up (by simp))
      have hF17 : px_Fx M15 := by rw [eM15]; exact fx_up hW hF13 (cs_10 hW hcb) (Or.inl (by rw [px_ty10]; decide))
      have hG18 : px_RG sh M15 := by rw [eM15]; exact rg_up hG14 (cs_10 hW hcb) (by rw [px_ty10]; decide) (by simp only [rg, rl] at *; omega)
      refine rr_aload_n pf_19_84 rfl ?_
      refine rr_getR pf_19_85 po_19 pg_0_12 rfl (cs_z hW hcb) (by decide) (cf_0_0 hF17 hcb) ?_
      refine rr_getR pf_19_88 po_19 pg_0_133 rfl (cs_1 hW hcb) (by decide) (cf_1_0 hF17 hcb) ?_
      refine rr_iload_n pf_19_91 rfl ?_
      refine rr_iconst pf_19_92 ?_
      refine rr_imul pf_19_93 ?_
      refine rr_aload_n pf_19_94 rfl ?_
      refine rr_getR pf_19_95 po_19 pg_0_59 rfl (cs_z hW hcb) (by decide) (cf_0_13 hF17 hcb) ?_
      refine rr_bipush pf_19_98 (by decide) ?_
      refine rr_iconst pf_19_100 ?_
      refine rr_copy pf_19_101 po_19 pc_0_70 rfl (cs_2 hW hcb) (cs_10 hW hcb) (by omega) (by omega) (by omega) (by omega) (by omega) ⟨by unfold rg; omega, by unfold rg; omega, by unfold rg; omega⟩ (fun M19 eM19 => ?_)
      have hF20 : px_Fx M19 := by rw [eM19]; exact fx_cl hW hF17 (cs_10 hW hcb) (by decide)
      have hG21 : px_RG sh M19 := by rw [eM19]; exact rg_copy hG18 (cs_2 hW hcb) (cs_10 hW hcb)
      have hE22 : px_eo (px_scr cb) M M19 := eo_tr hE16 (by rw [eM19]; exact eo_cl (by simp))
      refine rr_aload_n pf_19_104 rfl ?_
      refine rr_getR pf_19_105 po_19 pg_0_59 rfl (cs_z hW hcb) (by decide) (cf_0_13 hF20 hcb) ?_
      refine rr_bipush pf_19_108 (by decide) ?_
      refine rr_aload_n pf_19_110 rfl ?_
      refine rr_getR pf_19_111 po_19 pg_0_12 rfl (cs_z hW hcb) (by decide) (cf_0_0 hF20 hcb) ?_
      refine rr_getI pf_19_114 po_19 pg_0_83 rfl (cs_1 hW hcb) (by decide) ?_
      refine rr_iast pf_19_117 (cs_10 hW hcb) (by omega) (by omega) (by simp only [rg, rl] at *; omega) (rg_at hG21 (cs_1 hW hcb) (by decide)) (fun M23 eM23 => ?_)
      have hE24 : px_eo (px_scr cb) M M23 := eo_tr hE22 (by rw [eM23]; exact eo_up (by simp))
      have hF25 : px_Fx M23 := by rw [eM23]; exact fx_up hW hF20 (cs_10 hW hcb) (Or.inl (by rw [px_ty10]; decide))
      have hG26 : px_RG sh M23 := by rw [eM23]; exact rg_up hG21 (cs_10 hW hcb) (by rw [px_ty10]; decide) (rg_at hG21 (cs_1 hW hcb) (by decide))
      refine rr_aload_n pf_19_118 rfl ?_
      refine rr_getR pf_19_119 po_19 pg_0_59 rfl (cs_z hW hcb) (by decide) (cf_0_13 hF25 hcb) ?_
      refine rr_bipush pf_19_122 (by decide) ?_
      refine rr_aload_n pf_19_124 rfl ?_
      refine rr_getI pf_19_125 po_19 pg_0_56 rfl (cs_z hW hcb) (by decide) ?_
      refine rr_iast pf_19_128 (cs_10 hW hcb) (by omega) (by omega) (by simp only [rg, rl] at *; omega) (rg_at hG26 (cs_z hW hcb) (by decide)) (fun M27 eM27 => ?_)
      have hE28 : px_eo (px_scr cb) M M27 := eo_tr hE24 (by rw [eM27]; exact eo_up (by simp))
      have hF29 : px_Fx M27 := by rw [eM27]; exact fx_up hW hF25 (cs_10 hW hcb) (Or.inl (by rw [px_ty10]; decide))
      have hG30 : px_RG sh M27 := by rw [eM27]; exact rg_up hG26 (cs_10 hW hcb) (by rw [px_ty10]; decide) (rg_at hG26 (cs_z hW hcb) (by decide))
      refine rr_vret pf_19_129 pt_19 ⟨rfl, _, rfl, ⟨hF29, hG30, hE28⟩, by unfold sp_envB; exact sp_env_eq (by rw [eM27, ask_up, if_neg (by decide), eM23, ask_up, if_neg (by decide), eM19, ask_cp, if_neg (by decide), eM15, ask_up, if_neg (by decide), eM11, ask_up, if_neg (by decide), eM7, ask_up, if_neg (by decide), eM1, ask_cl, if_pos (by decide)]) (by rw [eM27, ask_up, if_neg (by decide), eM23, ask_up, if_neg (by decide), eM19, ask_cp, if_neg (by decide), eM15, ask_up, if_neg (by decide), eM11, ask_up, if_neg (by decide), eM7, ask_up, if_neg (by decide), eM1, ask_cl, if_pos (by decide)]) (by rw [eM27, ask_up, if_neg (by decide), eM23, ask_up, if_neg (by decide), eM19, ask_cp, if_neg (by decide), eM15, ask_up, if_neg (by decide), eM11, ask_up, if_neg (by decide), eM7, ask_up, if_neg (by decide), eM1, ask_cl, if_pos (by decide)]) (by rw [eM27, ask_up, if_neg (by decide), eM23, ask_up, if_neg (by decide), eM19, ask_cp, if_neg (by decide), eM15, ask_up, if_neg (by decide), eM11, ask_up, if_neg (by decide), eM7, ask_up, if_pos (by decide)]; rw [hE4 (cb + 1) (by simp; omega)]; rfl) (by rw [eM27, ask_up, if_neg (by decide), eM23, ask_up, if_neg (by decide), eM19, ask_cp, if_neg (by decide), eM15, ask_up, if_neg (by decide), eM11, ask_up, if_pos (by decide)]) (by rw [eM27, ask_up, if_neg (by decide), eM23, ask_up, if_neg (by decide), eM19, ask_cp, if_neg (by decide), eM15, ask_up, if_pos (by decide)]) (by rw [eM27, ask_up, if_neg (by decide), eM23, ask_up, if_neg (by decide), eM19, ask_cp, if_pos (by decide)]; rw [hE16 (cb + 2) (by simp; omega)]; unfold sp_hue; rw [rc_hue (by omega)]; congr 1; omega) (by rw [eM27, ask_up, if_neg (by decide), eM23, ask_up, if_neg (by decide), eM19, ask_cp, if_pos (by decide)]; rw [hE16 (cb + 2) (by simp; omega)]; unfold sp_hue; rw [rc_hue (by omega)]; congr 1; omega) (by rw [eM27, ask_up, if_neg (by decide), eM23, ask_up, if_neg (by decide), eM19, ask_cp, if_pos (by decide)]; rw [hE16 (cb + 2) (by simp; omega)]; unfold sp_hue; rw [rc_hue (by omega)]; congr 1; omega) (by rw [eM27, ask_up, if_neg (by decide), eM23, ask_up, if_neg (by decide), eM19, ask_cp, if_neg (by decide), eM15, ask_up, if_neg (by decide), eM11, ask_up, if_neg (by decide), eM7, ask_up, if_neg (by decide), eM1, ask_cl, if_pos (by decide)]) (by rw [eM27, ask_up, if_neg (by decide), eM23, ask_up, if_pos (by decide)]; rw [hE22 (cb + 1) (by simp; omega)]; rfl) (by rw [eM27, ask_up, if_pos (by decide)]; rw [hE24 cb (by simp; omega)]; rfl)⟩
  · exfalso; omega
theorem ct_Church_ask_0 {xs : Nat → Int} {L d : Nat} {sh : List (Nat × Nat)} {M : Nat → Nat → Int} (hd : 3 ≤ d) (hW : px_W0 <+: sh) (hF : px_Fx M) (hG : px_RG sh M) {cb : Nat} (hcb : px_ch cb) (hρ : sp_ok (rc M cb)) : ∃ M', (px_qk sh (px_scr cb) M M' ∧ (∀ j, j < 12 → M' (cb + 10) j = sp_envD (rc M cb) (-1) (-1) (-1) (-1) j)) ∧ px_Cl xs L d 19 [.ref cb, .int (iI (-1)), .int (iI (-1))] (sh, M) (none) (sh, M') := by
  obtain ⟨d, rfl⟩ : ∃ e, d = e + 1 := ⟨d - 1, by omega⟩
  have hcl := ch_lt hcb
  have hc3 : 3 ≤ cb := (show ∀ c ∈ px_chL, 3 ≤ c by decide +kernel) cb hcb
  have hpul : 0 ≤ M (cb + 1) 3 ∧ M (cb + 1) 3 < 16 := hρ.2.2.2.2.2.2.2.2.1
  refine px_Cl_m (P := fun M' => px_qk sh (px_scr cb) M M' ∧ (∀ j, j < 12 → M' (cb + 10) j = sp_envD (rc M cb) (-1) (-1) (-1) (-1) j)) (Nat.le_of_ble_eq_true rfl) ?_
  show px_R xs L d 19 (0, [.ref cb, .int (iI (-1)), .int (iI (-1))], [], (sh, M)) _
  refine rr_aload_n pf_19_0 rfl ?_
  refine rr_getR pf_19_1 po_19 pg_0_59 rfl (cs_z hW hcb) (by decide) (cf_0_13 hF hcb) ?_
  refine rr_iconst pf_19_4 ?_
  obtain ⟨M1, eM1⟩ : ∃ m, m = px_cl M (cb + 10) (fun j => if j < 12 then (-1) else M (cb + 10) j) := ⟨_, rfl⟩
  have hcM1 : px_Cl xs L d 20 [.ref (cb + 10), .int (iI ((-1)))] (sh, M) none (sh, M1) := by rw [eM1]; exact ct_Arrays_fillI (by omega) (cs_10 hW hcb) (by decide) (by simp only [rg, rl] at *; omega)
  refine rr_cS2 pf_19_5 po_19 pc_0_115 (by decide) rfl hcM1 ?_
  have hF2 : px_Fx M1 := by rw [eM1]; exact fx_cl hW hF (cs_10 hW hcb) (by decide)
  have hG3 : px_RG sh M1 := by rw [eM1]; exact rg_cl hG (cs_10 hW hcb) (fun j => by split; exact (by simp only [rg, rl] at *; omega); exact rg_at hG (cs_10 hW hcb) (by rw [px_ty10]; decide))
  have hE4 : px_eo (px_scr cb) M M1 := eo_tr eo_rf (by rw [eM1]; exact eo_cl (by simp))
  refine rr_iload_n pf_19_8 rfl ?_
  refine rr_iconst pf_19_9 ?_
  refine rr_icmp_eq 44 pf_19_10 (by decide) (by simp only [rg, rl] at *; omega) (by simp only [rg, rl] at *; omega) (fun c5 => ?_) (fun c5 => ?_)
  · refine rr_iload_n pf_19_44 rfl ?_
    refine rr_iconst pf_19_45 ?_
    refine rr_icmp_eq 104 pf_19_46 (by decide) (by simp only [rg, rl] at *; omega) (by simp only [rg, rl] at *; omega) (fun c6 => ?_) (fun c6 => ?_)
    · refine rr_aload_n pf_19_104 rfl ?_
      refine rr_getR pf_19_105 po_19 pg_0_59 rfl (cs_z hW hcb) (by decide) (cf_0_13 hF2 hcb) ?_
      refine rr_bipush pf_19_108 (by decide) ?_
      refine rr_aload_n pf_19_110 rfl ?_
      refine rr_getR pf_19_111 po_19 pg_0_12 rfl (cs_z hW hcb) (by decide) (cf_0_0 hF2 hcb) ?_
      refine rr_getI pf_19_114 po_19 pg_0_83 rfl (cs_1 hW hcb) (by decide) ?_
      refine rr_iast pf_19_117 (cs_10 hW hcb) (by omega) (by omega) (by simp only [rg, rl] at *; omega) (rg_at hG3 (cs_1 hW hcb) (by decide)) (fun M7 eM7 => ?_)
      have hE8 : px_eo (px_scr cb) M M7 := eo_tr hE4 (by rw [eM7]; exact eo_up (by simp))
      have hF9 : px_Fx M7 := by rw [eM7]; exact fx_up hW hF2 (cs_10 hW hcb) (Or.inl (by rw [px_ty10]; decide))
      have hG10 : px_RG sh M7 := by rw [eM7]; exact rg_up hG3 (cs_10 hW hcb) (by rw [px_ty10]; decide) (rg_at hG3 (cs_1 hW hcb) (by decide))
      refine rr_aload_n pf_19_118 rfl ?_
      refine rr_getR pf_19_119 po_19 pg_0_59 rfl (cs_z hW hcb) (by decide) (cf_0_13 hF9 hcb) ?_
      refine rr_bipush pf_19_122 (by decide) ?_
      refine rr_aload_n pf_19_124 rfl ?_
      refine rr_getI pf_19_125 po_19 pg_0_56 rfl (cs_z hW hcb) (by decide) ?_
      refine rr_iast pf_19_128 (cs_10 hW hcb) (by omega) (by omega) (by simp only [rg, rl] at *; omega) (rg_at hG10 (cs_z hW hcb) (by decide)) (fun M11 eM11 => ?_)
      have hE12 : px_eo (px_scr cb) M M11 := eo_tr hE8 (by rw [eM11]; exact eo_up (by simp))
      have hF13 : px_Fx M11 := by rw [eM11]; exact fx_up hW hF9 (cs_10 hW hcb) (Or.inl (by rw [px_ty10]; decide))
      have hG14 : px_RG sh M11 := by rw [eM11]; exact rg_up hG10 (cs_10 hW hcb) (by rw [px_ty10]; decide) (rg_at hG10 (cs_z hW hcb) (by decide))
      refine rr_vret pf_19_129 pt_19 ⟨rfl, _, rfl, ⟨hF13, hG14, hE12⟩, by unfold sp_envD; exact sp_env_eq (by rw [eM11, ask_up, if_neg (by decide), eM7, ask_up, if_neg (by decide), eM1, ask_cl, if_pos (by decide)]) (by rw [eM11, ask_up, if_neg (by decide), eM7, ask_up, if_neg (by decide), eM1, ask_cl, if_pos (by decide)]) (by rw [eM11, ask_up, if_neg (by decide), eM7, ask_up, if_neg (by decide), eM1, ask_cl, if_pos (by decide)]) (by rw [eM11, ask_up, if_neg (by decide), eM7, ask_up, if_neg (by decide), eM1, ask_cl, if_pos (by decide)]) (by rw [eM11, ask_up, if_neg (by decide), eM7, ask_up, if_neg (by decide), eM1, ask_cl, if_pos (by decide)]) (by rw [eM11, ask_up, if_neg (by decide), eM7, ask_up, if_neg (by decide), eM1, ask_cl, if_pos (by decide)]) (by rw [eM11, ask_up, if_neg (by decide), eM7, ask_up, if_neg (by decide), eM1, ask_cl, if_pos (by decide)]) (by rw [eM11, ask_up, if_neg (by decide), eM7, ask_up, if_neg (by decide), eM1, ask_cl, if_pos (by decide)]) (by rw [eM11, ask_up, if_neg (by decide), eM7, ask_up, if_neg (by decide), eM1, ask_cl, if_pos (by decide)]) (by rw [eM11, ask_up, if_neg (by decide), eM7, ask_up, if_neg (by decide), eM1, ask_cl, if_pos (by decide)]) (by rw [eM11, ask_up, if_neg (by decide), eM7, ask_up, if_pos (by decide)]; rw [hE4 (cb + 1) (by simp; omega)]; rfl) (by rw [eM11, ask_up, if_pos (by decide)]; rw [hE8 cb (by simp; omega)]; rfl)⟩
    · exfalso; omega
  · exfalso; omega

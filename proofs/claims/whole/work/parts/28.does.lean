/-! what light does; who sits where -/
noncomputable def sp_doesF (lw : List sp_C) (ρ : Nat → Int) (l : Nat) (f : Nat → Int) : Int := max (-9) (min 9 ((sp_tell lw 1 (sp_envD ρ (f 0) (f 1) (f 2) (ρ (63 + l)))).getD ((f 1 - f 0).tdiv 10)))
theorem sp_does_F (lw : List sp_C) (ρ : Nat → Int) (l s : Nat) : sp_doesF lw ρ l (sp_light lw ρ s) = sp_does lw ρ l s := rfl
theorem sp_doesF_b (lw : List sp_C) (ρ : Nat → Int) (l : Nat) (f : Nat → Int) : -9 ≤ sp_doesF lw ρ l f ∧ sp_doesF lw ρ l f ≤ 9 := by unfold sp_doesF; omega
theorem td10 {a : Int} (h : -198 ≤ a ∧ a ≤ 198) : -198 ≤ a.tdiv 10 ∧ a.tdiv 10 ≤ 198 := by
  have := Int.natAbs_tdiv_le_natAbs a 10
  omega
theorem sp_spir_b {ρ : Nat → Int} (h : sp_ok ρ) {l : Nat} (hl : l < 6) : 0 ≤ ρ (63 + l) ∧ ρ (63 + l) ≤ 99 := h.2.2.2.2.2.2.2.2.2.2.2.1 l hl
theorem sp_seat_b {ρ : Nat → Int} (h : sp_ok ρ) {l : Nat} (hl : l < 6) : 0 ≤ ρ (57 + l) ∧ ρ (57 + l) ≤ 7 := h.2.2.2.2.2.2.2.2.2.2.1 l hl
theorem ct_Church_doesTo {xs : Nat → Int} {L d : Nat} {sh : List (Nat × Nat)} {M : Nat → Nat → Int} (hd : 5 ≤ d) (hW : px_W0 <+: sh) (hF : px_Fx M) (hG : px_RG sh M) {cb : Nat} (hcb : px_ch cb) (hρ : sp_ok (rc M cb)) {lw : List sp_C} (hlw : px_lw sh M cb lw) {l : Nat} (hl : l < 6) {f : Nat → Int} (hf : ∀ h, h < 3 → M (cb + 9) h = f h) (hfb : ∀ h, h < 3 → 0 ≤ f h ∧ f h ≤ 198) : ∃ M', px_qk sh (px_scr cb) M M' ∧ px_Cl xs L d 43 [.ref cb, .int (iI (((l : Nat) : Int)))] (sh, M) (some (.int (iI (sp_doesF lw (rc M cb) l f)))) (sh, M') := by
  obtain ⟨d, rfl⟩ : ∃ e, d = e + 1 := ⟨d - 1, by omega⟩
  have hcl := ch_far hcb hcb
  have hpul : 0 ≤ M (cb + 1) 3 ∧ M (cb + 1) 3 < 16 := hρ.2.2.2.2.2.2.2.2.1
  have b0 := hfb 0 (by omega)
  have b1 := hfb 1 (by omega)
  have b2 := hfb 2 (by omega)
  have bs := sp_spir_b hρ hl
  refine px_Cl_m (Nat.le_of_ble_eq_true rfl) ?_
  show px_R xs L d 43 (0, [.ref cb, .int (iI (((l : Nat) : Int))), px_jk, px_jk], [], (sh, M)) _
  refine rr_aload_n pf_43_0 rfl ?_
  refine rr_iconst pf_43_1 ?_
  refine rr_iconst pf_43_2 ?_
  obtain ⟨M1, ⟨qM1, vM1⟩, hcM1⟩ := ct_Church_ask_0 (xs := xs) (L := L) (d := d) (by omega) hW hF hG hcb hρ 
  refine rr_cV2 pf_43_3 po_43 pc_0_93 (cs_z hW hcb) po_19 (by decide) rfl hcM1 ?_
  have hE2 : px_eo (px_scr cb) M M1 := eo_tr eo_rf qM1.2.2
  refine rr_aload_n pf_43_6 rfl ?_
  refine rr_getR pf_43_7 po_43 pg_0_34 rfl (cs_z hW hcb) (by decide) (cf_0_5 qM1.1 hcb) ?_
  refine rr_iconst pf_43_10 ?_
  refine rr_aload_n pf_43_11 rfl ?_
  refine rr_getR pf_43_12 po_43 pg_0_59 rfl (cs_z hW hcb) (by decide) (cf_0_13 qM1.1 hcb) ?_
  refine rr_bipush pf_43_15 (by decide) ?_
  refine rr_iconst pf_43_17 ?_
  refine rr_copy pf_43_18 po_43 pc_0_70 rfl (cs_9 hW hcb) (cs_10 hW hcb) (by omega) (by omega) (by omega) (by omega) (by omega) ⟨by unfold rg; omega, by unfold rg; omega, by unfold rg; omega⟩ (fun M3 eM3 => ?_)
  have hF4 : px_Fx M3 := by rw [eM3]; exact fx_cl hW qM1.1 (cs_10 hW hcb) (by decide)
  have hG5 : px_RG sh M3 := by rw [eM3]; exact rg_copy qM1.2.1 (cs_9 hW hcb) (cs_10 hW hcb)
  have hE6 : px_eo (px_scr cb) M M3 := eo_tr hE2 (by rw [eM3]; exact eo_cl (by simp))
  refine rr_aload_n pf_43_21 rfl ?_
  refine rr_getR pf_43_22 po_43 pg_0_59 rfl (cs_z hW hcb) (by decide) (cf_0_13 hF4 hcb) ?_
  refine rr_bipush pf_43_25 (by decide) ?_
  refine rr_aload_n pf_43_27 rfl ?_
  refine rr_getR pf_43_28 po_43 pg_0_12 rfl (cs_z hW hcb) (by decide) (cf_0_0 hF4 hcb) ?_
  refine rr_getR pf_43_31 po_43 pg_0_127 rfl (cs_1 hW hcb) (by decide) (cf_1_1 hF4 hcb) ?_
  refine rr_iload_n pf_43_34 rfl ?_
  refine rr_iald pf_43_35 (cs_3 hW hcb) (by omega) (by omega) (by simp only [rg, rl] at *; omega) ?_
  refine rr_iast pf_43_36 (cs_10 hW hcb) (by omega) (by omega) (by simp only [rg, rl] at *; omega) (rg_at hG5 (cs_3 hW hcb) (by rw [px_ty10]; decide)) (fun M7 eM7 => ?_)
  have hE8 : px_eo (px_scr cb) M M7 := eo_tr hE6 (by rw [eM7]; exact eo_up (by simp))
  have hF9 : px_Fx M7 := by rw [eM7]; exact fx_up hW hF4 (cs_10 hW hcb) (Or.inl (by rw [px_ty10]; decide))
  have hG10 : px_RG sh M7 := by rw [eM7]; exact rg_up hG5 (cs_10 hW hcb) (by rw [px_ty10]; decide) (rg_at hG5 (cs_3 hW hcb) (by rw [px_ty10]; decide))
  have hask : ∀ j, j < 12 → M7 (cb + 10) j = sp_envD (rc M cb) (f 0) (f 1) (f 2) (rc M cb (63 + l)) j := by unfold sp_envD; exact sp_env_eq (by rw [eM7, ask_up, if_neg (by decide), eM3, ask_cp, if_neg (by decide), vM1 0 (by omega)]; rfl) (by rw [eM7, ask_up, if_neg (by decide), eM3, ask_cp, if_neg (by decide), vM1 1 (by omega)]; rfl) (by rw [eM7, ask_up, if_neg (by decide), eM3, ask_cp, if_neg (by decide), vM1 2 (by omega)]; rfl) (by rw [eM7, ask_up, if_neg (by decide), eM3, ask_cp, if_neg (by decide), vM1 3 (by omega)]; rfl) (by rw [eM7, ask_up, if_neg (by decide), eM3, ask_cp, if_neg (by decide), vM1 4 (by omega)]; rfl) (by rw [eM7, ask_up, if_neg (by decide), eM3, ask_cp, if_neg (by decide), vM1 5 (by omega)]; rfl) (by rw [eM7, ask_up, if_neg (by decide), eM3, ask_cp, if_pos (by decide), hE2 (cb + 9) (by simp <;> omega)]; exact hf 0 (by omega)) (by rw [eM7, ask_up, if_neg (by decide), eM3, ask_cp, if_pos (by decide), hE2 (cb + 9) (by simp <;> omega)]; exact hf 1 (by omega)) (by rw [eM7, ask_up, if_neg (by decide), eM3, ask_cp, if_pos (by decide), hE2 (cb + 9) (by simp <;> omega)]; exact hf 2 (by omega)) (by rw [eM7, ask_up, if_pos (by decide), hE6 (cb + 3) (by simp <;> omega), Int.toNat_natCast]; exact (rc_spir hl).symm) (by rw [eM7, ask_up, if_neg (by decide), eM3, ask_cp, if_neg (by decide), vM1 10 (by omega)]; rfl) (by rw [eM7, ask_up, if_neg (by decide), eM3, ask_cp, if_neg (by decide), vM1 11 (by omega)]; rfl)
  skip
  refine rr_aload_n pf_43_37 rfl ?_
  refine rr_iconst pf_43_38 ?_
  have hbv : px_bnd (M7 (cb + 10)) := fun j hj => by rw [hask j hj]; exact (bnd_D hρ ⟨by omega, by omega⟩ ⟨by omega, by omega⟩ ⟨by omega, by omega⟩ ⟨by omega, by omega⟩) j hj
  obtain ⟨M11, qM11, hcM11⟩ := ct_Church_lastTold (xs := xs) (L := L) (d := d) (by omega) hW hF9 hG10 hcb (kd := 1) (by simp only [rg, rl] at *; omega) (lw_scr hcb hcb hlw hE8) hbv (by rw [hE8 cb (by simp <;> omega)]; exact hρ.2.2.2.1.1)
  rw [sp_tell_congr hlw.2 hask] at hcM11
  have hoI := oI_b (q := sp_tell lw 1 (sp_envD (rc M cb) (f 0) (f 1) (f 2) (rc M cb (63 + l)))) (fun y hy => tell_b hlw (bnd_D hρ ⟨by omega, by omega⟩ ⟨by omega, by omega⟩ ⟨by omega, by omega⟩ ⟨by omega, by omega⟩) hy)
  refine rr_cV1 pf_43_39 po_43 pc_0_97 (cs_z hW hcb) po_22 (by decide) rfl hcM11 ?_
  have hE12 : px_eo (px_scr cb) M M11 := eo_tr hE8 (eo_mono qM11.2.2 (by simp))
  refine rr_istore_n pf_43_42 (fun y => [.ref cb, .int (iI (((l : Nat) : Int))), .int (iI (y)), px_jk]) (Nat.le_of_ble_eq_true rfl) (fun _ => rfl) (fun y13 hy13 => ?_)
  refine rr_iload_n pf_43_43 rfl ?_
  refine rr_ldc pf_43_44 po_43 pk_0_101 ?_
  refine rr_icmp_ne 68 pf_43_46 (by decide) (by simp only [rg, rl] at *; omega) (by simp only [rg, rl] at *; omega) (fun c14 => ?_) (fun c14 => ?_)
  · refine rr_iload_n pf_43_68 rfl ?_
    refine rr_istore_n pf_43_69 (fun y => [.ref cb, .int (iI (((l : Nat) : Int))), .int (iI (y13)), .int (iI (y))]) (Nat.le_of_ble_eq_true rfl) (fun _ => rfl) (fun y15 hy15 => ?_)
    refine rr_iload_n pf_43_70 rfl ?_
    refine rr_bipush pf_43_71 (by decide) ?_
    refine rr_bipush pf_43_73 (by decide) ?_
    refine rr_cS3 pf_43_75 po_43 pc_0_105 (by decide) rfl (ct_S_nearest (by omega) (by simp only [rg, rl] at *; omega) (by simp only [rg, rl] at *; omega) (by simp only [rg, rl] at *; omega)) ?_
    refine rr_iret pf_43_78 pt_43 ⟨by subst_vars; unfold sp_doesF; rw [oI_some (fun e => by have := hoI.2.mpr e; omega)], _, rfl, qM11.1, qM11.2.1, hE12⟩
  · have g0 : M11 (cb + 9) 0 = f 0 := by rw [hE12 (cb + 9) (by simp <;> omega)]; exact hf 0 (by omega)
    have g1 : M11 (cb + 9) 1 = f 1 := by rw [hE12 (cb + 9) (by simp <;> omega)]; exact hf 1 (by omega)
    have g2 : M11 (cb + 9) (1 : Int).toNat = f 1 := g1
    have g3 : M11 (cb + 9) (0 : Int).toNat = f 0 := g0
    skip
    refine rr_aload_n pf_43_49 rfl ?_
    refine rr_getR pf_43_50 po_43 pg_0_34 rfl (cs_z hW hcb) (by decide) (cf_0_5 qM11.1 hcb) ?_
    refine rr_iconst pf_43_53 ?_
    refine rr_iald pf_43_54 (cs_9 hW hcb) (by omega) (by omega) (by simp only [rg, rl] at *; omega) ?_
    refine rr_aload_n pf_43_55 rfl ?_
    refine rr_getR pf_43_56 po_43 pg_0_34 rfl (cs_z hW hcb) (by decide) (cf_0_5 qM11.1 hcb) ?_
    refine rr_iconst pf_43_59 ?_
    refine rr_iald pf_43_60 (cs_9 hW hcb) (by omega) (by omega) (by simp only [rg, rl] at *; omega) ?_
    refine rr_isub pf_43_61 ?_
    refine rr_bipush pf_43_62 (by decide) ?_
    have htd := td10 (a := M11 (cb + 9) (1 : Int).toNat - M11 (cb + 9) (0 : Int).toNat) (by omega)
    refine rr_idiv pf_43_64 (by simp only [rg, rl] at *; omega) (by simp only [rg, rl] at *; omega) (by omega) ?_
    refine rr_goto 69 pf_43_65 (by decide) ?_
    refine rr_istore_n pf_43_69 (fun y => [.ref cb, .int (iI (((l : Nat) : Int))), .int (iI (y13)), .int (iI (y))]) (Nat.le_of_ble_eq_true rfl) (fun _ => rfl) (fun y16 hy16 => ?_)
    refine rr_iload_n pf_43_70 rfl ?_
    refine rr_bipush pf_43_71 (by decide) ?_
    refine rr_bipush pf_43_73 (by decide) ?_
    refine rr_cS3 pf_43_75 po_43 pc_0_105 (by decide) rfl (ct_S_nearest (by omega) (by simp only [rg, rl] at *; omega) (by simp only [rg, rl] at *; omega) (by simp only [rg, rl] at *; omega)) ?_
    refine rr_iret pf_43_78 pt_43 ⟨by subst_vars; unfold sp_doesF; rw [oI_none (hoI.2.mp (by omega)), ← g2, ← g3], _, rfl, qM11.1, qM11.2.1, hE12⟩
theorem ct_Church_spiritAfter {xs : Nat → Int} {L d : Nat} {sh : List (Nat × Nat)} {M : Nat → Nat → Int} (hd : 6 ≤ d) (hW : px_W0 <+: sh) (hF : px_Fx M) (hG : px_RG sh M) {cb : Nat} (hcb : px_ch cb) (hρ : sp_ok (rc M cb)) {lw : List sp_C} (hlw : px_lw sh M cb lw) {l : Nat} (hl : l < 6) {f : Nat → Int} (hf : ∀ h, h < 3 → M (cb + 9) h = f h) (hfb : ∀ h, h < 3 → 0 ≤ f h ∧ f h ≤ 198) : ∃ M', px_qk sh (px_scr cb) M M' ∧ px_Cl xs L d 106 [.ref cb, .int (iI (((l : Nat) : Int)))] (sh, M) (some (.int (iI (max 0 (min 99 (rc M cb (63 + l) + sp_doesF lw (rc M cb) l f)))))) (sh, M') := by
  obtain ⟨d, rfl⟩ : ∃ e, d = e + 1 := ⟨d - 1, by omega⟩
  have hcl := ch_far hcb hcb
  have hpul : 0 ≤ M (cb + 1) 3 ∧ M (cb + 1) 3 < 16 := hρ.2.2.2.2.2.2.2.2.1
  have bs := sp_spir_b hρ hl
  refine px_Cl_m (Nat.le_of_ble_eq_true rfl) ?_
  show px_R xs L d 106 (0, [.ref cb, .int (iI (((l : Nat) : Int)))], [], (sh, M)) _
  refine rr_aload_n pf_106_0 rfl ?_
  refine rr_getR pf_106_1 po_106 pg_0_12 rfl (cs_z hW hcb) (by decide) (cf_0_0 hF hcb) ?_
  refine rr_getR pf_106_4 po_106 pg_0_127 rfl (cs_1 hW hcb) (by decide) (cf_1_1 hF hcb) ?_
  refine rr_iload_n pf_106_7 rfl ?_
  refine rr_iald pf_106_8 (cs_3 hW hcb) (by omega) (by omega) (by simp only [rg, rl] at *; omega) ?_
  rw [show M (cb + 3) (((l : Nat) : Int)).toNat = rc M cb (63 + l) by rw [Int.toNat_natCast]; exact (rc_spir hl).symm]
  refine rr_aload_n pf_106_9 rfl ?_
  refine rr_iload_n pf_106_10 rfl ?_
  obtain ⟨M1, qM1, hcM1⟩ := ct_Church_doesTo (xs := xs) (L := L) (d := d) (l := l) (by omega) hW hF hG hcb hρ hlw (by omega) hf hfb
  have hdb := sp_doesF_b lw (rc M cb) l f
  refine rr_cV1 pf_106_11 po_106 pc_0_130 (cs_z hW hcb) po_43 (by decide) rfl hcM1 ?_
  have hE2 : px_eo (px_scr cb) M M1 := eo_tr eo_rf qM1.2.2
  refine rr_iadd pf_106_14 ?_
  refine rr_iconst pf_106_15 ?_
  refine rr_bipush pf_106_16 (by decide) ?_
  refine rr_cS3 pf_106_18 po_106 pc_0_105 (by decide) rfl (ct_S_nearest (by omega) (by simp only [rg, rl] at *; omega) (by simp only [rg, rl] at *; omega) (by simp only [rg, rl] at *; omega)) ?_
  refine rr_iret pf_106_21 pt_106 ⟨rfl, _, rfl, qM1.1, qM1.2.1, hE2⟩
def sp_taken (ρ : Nat → Int) (s : Int) : Nat → Bool
  | 0 => false
  | n + 1 => sp_taken ρ s n || decide (ρ (57 + n) = s)
theorem sp_taken_iff (ρ : Nat → Int) (s : Int) (n : Nat) : sp_taken ρ s n = true ↔ ∃ i, i < n ∧ ρ (57 + i) = s := by
  induction n with
  | zero => simp [sp_taken]
  | succ n ih =>
    simp only [sp_taken, Bool.or_eq_true, decide_eq_true_eq, ih]
    constructor
    · rintro (⟨i, a, b⟩ | b)
      · exact ⟨i, by omega, b⟩
      · exact ⟨n, by omega, b⟩
    · rintro ⟨i, a, b⟩
      rcases (show i < n ∨ i = n by omega) with c | rfl
      · exact Or.inl ⟨i, c, b⟩
      · exact Or.inr b
theorem lp_Church_isTaken {xs : Nat → Int} {L d : Nat} {sh : List (Nat × Nat)} {M : Nat → Nat → Int} (hW : px_W0 <+: sh) (hF : px_Fx M) (hG : px_RG sh M) {cb : Nat} (hcb : px_ch cb) (hρ : sp_ok (rc M cb)) {v : Int} (hv : rg v) : ∀ (m i : Nat), i + m = (rc M cb 1).toNat → ¬ sp_taken (rc M cb) v i = true → px_R xs L d 38 (2, [.ref cb, .int (iI (v)), .int (iI (((i : Nat) : Int)))], [], (sh, M)) (fun r h' => r = some (.int (iI (bI (sp_taken (rc M cb) v (rc M cb 1).toNat = true)))) ∧ h' = (sh, M)) := by
  have h1 : M cb 7 = rc M cb 1 := rfl
  have h2 := hρ.2.1
  intro m
  induction m with
  | zero =>
    intro i hi hn
    refine rr_iload_n pf_38_2 rfl ?_
    refine rr_aload_n pf_38_3 rfl ?_
    refine rr_getI pf_38_4 po_38 pg_0_41 rfl (cs_z hW hcb) (by decide) ?_
    refine rr_icmp_ge 31 pf_38_7 (by decide) (by simp only [rg, rl] at *; omega) (rg_at hG (cs_z hW hcb) (by decide)) (fun c1 => ?_) (fun c1 => ?_)
    · refine rr_iconst pf_38_31 ?_
      refine rr_zret pf_38_32 pt_38 (by first | exact Or.inl rfl | exact Or.inr rfl | omega) ⟨by rw [bI_f (by rw [show (rc M cb 1).toNat = i by omega]; exact hn)], rfl⟩
    · exfalso; omega
  | succ m ih =>
    intro i hi hn
    have hsb := sp_seat_b hρ (l := i) (by omega)
    refine rr_iload_n pf_38_2 rfl ?_
    refine rr_aload_n pf_38_3 rfl ?_
    refine rr_getI pf_38_4 po_38 pg_0_41 rfl (cs_z hW hcb) (by decide) ?_
    refine rr_icmp_ge 31 pf_38_7 (by decide) (by simp only [rg, rl] at *; omega) (rg_at hG (cs_z hW hcb) (by decide)) (fun c1 => ?_) (fun c1 => ?_)
    · exfalso; omega
    · refine rr_aload_n pf_38_10 rfl ?_
      refine rr_getR pf_38_11 po_38 pg_0_12 rfl (cs_z hW hcb) (by decide) (cf_0_0 hF hcb) ?_
      refine rr_getR pf_38_14 po_38 pg_0_80 rfl (cs_1 hW hcb) (by decide) (cf_1_2 hF hcb) ?_
      refine rr_iload_n pf_38_17 rfl ?_
      refine rr_iald pf_38_18 (cs_4 hW hcb) (by omega) (by omega) (by simp only [rg, rl] at *; omega) ?_
      rw [show M (cb + 4) (((i : Nat) : Int)).toNat = rc M cb (57 + i) by rw [Int.toNat_natCast]; exact (rc_seat (by omega)).symm]
      refine rr_iload_n pf_38_19 rfl ?_
      refine rr_icmp_ne 25 pf_38_20 (by decide) (by simp only [rg, rl] at *; omega) hv (fun c2 => ?_) (fun c2 => ?_)
      · refine rr_iinc pf_38_25 rfl (fun y => [.ref cb, .int (iI (v)), .int (iI (y))]) (fun _ => rfl) (fun y3 hy3 => ?_)
        refine rr_goto 2 pf_38_28 (by decide) ?_
        obtain rfl : y3 = ((i + 1 : Nat) : Int) := by omega
        exact ih (i + 1) (by omega) (fun h => by simp only [sp_taken, Bool.or_eq_true, decide_eq_true_eq] at h; exact h.elim hn (fun e => by omega))
      · refine rr_iconst pf_38_23 ?_
        refine rr_zret pf_38_24 pt_38 (by first | exact Or.inl rfl | exact Or.inr rfl | omega) ⟨by rw [bI_t ((sp_taken_iff _ _ _).mpr ⟨i, by omega, by omega⟩)], rfl⟩
theorem ct_Church_isTaken {xs : Nat → Int} {L d : Nat} {sh : List (Nat × Nat)} {M : Nat → Nat → Int} (hd : 1 ≤ d) (hW : px_W0 <+: sh) (hF : px_Fx M) (hG : px_RG sh M) {cb : Nat} (hcb : px_ch cb) (hρ : sp_ok (rc M cb)) {v : Int} (hv : rg v) : px_Cl xs L d 38 [.ref cb, .int (iI v)] (sh, M) (some (.int (iI (bI (sp_taken (rc M cb) v (rc M cb 1).toNat = true))))) (sh, M) := by
  obtain ⟨d, rfl⟩ : ∃ e, d = e + 1 := ⟨d - 1, by omega⟩
  refine px_Cl_intro (Nat.le_of_ble_eq_true rfl) ?_
  show px_R xs L d 38 (0, [.ref cb, .int (iI (v)), px_jk], [], (sh, M)) _
  refine rr_iconst pf_38_0 ?_
  refine rr_istore_n pf_38_1 (fun y => [.ref cb, .int (iI (v)), .int (iI (y))]) (Nat.le_of_ble_eq_true rfl) (fun _ => rfl) (fun y1 hy1 => ?_)
  obtain rfl : y1 = ((0 : Nat) : Int) := by omega
  exact lp_Church_isTaken hW hF hG hcb hρ hv _ 0 (Nat.zero_add _) (by simp [sp_taken])

/-! the copy of a church -/
theorem px_ty13 (j : Nat) : px_ty 13 j = 2 := by unfold px_ty; rfl
abbrev px_chA (cb : Nat) : List Nat := [cb, cb + 1, cb + 2, cb + 3, cb + 4, cb + 5, cb + 6, cb + 7, cb + 8]
/-- the laws of a church are texts or none -/
def px_lOK (sh : List (Nat × Nat)) (M : Nat → Nat → Int) (cb : Nat) : Prop := ∀ n, n < 6 → M (cb + 8) n = -1 ∨ ∃ t : Nat, M (cb + 8) n = (t : Int) ∧ t ≤ 600000 ∧ px_eok 13 (.ref t) sh = true
theorem lp_Church_copyFrom {xs : Nat → Int} {L d : Nat} {sh : List (Nat × Nat)} (hW : px_W0 <+: sh) {M0 : Nat → Nat → Int} {cb c2 : Nat} (hcb : px_ch cb) (hc2 : px_ch c2) (hne : cb ≠ c2) (hok : px_lOK sh M0 c2) {Q : Option Value → px_H → Prop} : ∀ (m i : Nat) (M : Nat → Nat → Int), i + m = 6 → px_qk sh [cb + 8] M0 M → (∀ n, n < i → M (cb + 8) n = M0 (c2 + 8) n) → (∀ (M' : Nat → Nat → Int), px_qk sh [cb + 8] M0 M' → (∀ n, n < 6 → M' (cb + 8) n = M0 (c2 + 8) n) → px_R xs L d 152 (85, [.ref cb, .ref c2, .int (iI (((6 : Nat) : Int)))], [], (sh, M')) Q) → px_R xs L d 152 (61, [.ref cb, .ref c2, .int (iI (((i : Nat) : Int)))], [], (sh, M)) Q := by
  have hcl := ch_far hcb hc2
  have hcl2 := ch_far hc2 hcb
  intro m
  induction m with
  | zero =>
    intro i M hi hq hl k
    obtain rfl : i = 6 := by omega
    refine rr_iload_n pf_152_61 rfl ?_
    refine rr_bipush pf_152_62 (by decide) ?_
    refine rr_icmp_ge 85 pf_152_64 (by decide) (by simp only [rg, rl] at *; omega) (by simp only [rg, rl] at *; omega) (fun c1 => ?_) (fun c1 => ?_)
    · exact k M hq (fun n hn => hl n (by omega))
    · exfalso; omega
  | succ m ih =>
    intro i M hi hq hl k
    have hm : M (c2 + 8) = M0 (c2 + 8) := hq.2.2 (c2 + 8) (by simp <;> omega)
    rcases hok i (by omega) with g1 | ⟨t, g1, g2, g3⟩
    · rw [← hm] at g1
      refine rr_iload_n pf_152_61 rfl ?_
      refine rr_bipush pf_152_62 (by decide) ?_
      refine rr_icmp_ge 85 pf_152_64 (by decide) (by simp only [rg, rl] at *; omega) (by simp only [rg, rl] at *; omega) (fun c1 => ?_) (fun c1 => ?_)
      · exfalso; omega
      · refine rr_aload_n pf_152_67 rfl ?_
        refine rr_getR pf_152_68 po_152 pg_0_30 rfl (cs_z hW hcb) (by decide) (cf_0_4 hq.1 hcb) ?_
        refine rr_iload_n pf_152_71 rfl ?_
        refine rr_aload_n pf_152_72 rfl ?_
        refine rr_getR pf_152_73 po_152 pg_0_30 rfl (cs_z hW hc2) (by decide) (cf_0_4 hq.1 hc2) ?_
        refine rr_iload_n pf_152_76 rfl ?_
        refine rr_aaldN pf_152_77 (cs_8 hW hc2) (by omega) (by omega) (by simp only [rg, rl] at *; omega) (by decide) (by rw [Int.toNat_natCast]; omega) ?_
        refine rr_aastN pf_152_78 (cs_8 hW hcb) (by omega) (by omega) (by simp only [rg, rl] at *; omega) (by decide) (fun M2 eM2 => ?_)
        have hE3 : px_eo [cb + 8] M0 M2 := eo_tr hq.2.2 (by rw [eM2]; exact eo_up (by simp))
        have hF4 : px_Fx M2 := by rw [eM2]; exact fx_up hW hq.1 (cs_8 hW hcb) (Or.inr rfl)
        have hG5 : px_RG sh M2 := by rw [eM2]; exact rg_up hq.2.1 (cs_8 hW hcb) (by rw [px_ty13]; decide) (by unfold rg; omega)
        refine rr_iinc pf_152_79 rfl (fun y => [.ref cb, .ref c2, .int (iI (y))]) (fun _ => rfl) (fun y6 hy6 => ?_)
        refine rr_goto 61 pf_152_82 (by decide) ?_
        obtain rfl : y6 = ((i + 1 : Nat) : Int) := by omega
        refine ih (i + 1) M2 (by omega) ⟨hF4, hG5, hE3⟩ (fun n hn => ?_) k
        rw [eM2, ask_up, Int.toNat_natCast]
        rcases (show n = i ∨ n < i by omega) with rfl | hn2
        · rw [if_pos rfl, ← hq.2.2 (c2 + 8) (by simp <;> omega)]; exact g1.symm
        · rw [if_neg (by omega)]; exact hl n hn2
    · rw [← hm] at g1
      refine rr_iload_n pf_152_61 rfl ?_
      refine rr_bipush pf_152_62 (by decide) ?_
      refine rr_icmp_ge 85 pf_152_64 (by decide) (by simp only [rg, rl] at *; omega) (by simp only [rg, rl] at *; omega) (fun c1 => ?_) (fun c1 => ?_)
      · exfalso; omega
      · refine rr_aload_n pf_152_67 rfl ?_
        refine rr_getR pf_152_68 po_152 pg_0_30 rfl (cs_z hW hcb) (by decide) (cf_0_4 hq.1 hcb) ?_
        refine rr_iload_n pf_152_71 rfl ?_
        refine rr_aload_n pf_152_72 rfl ?_
        refine rr_getR pf_152_73 po_152 pg_0_30 rfl (cs_z hW hc2) (by decide) (cf_0_4 hq.1 hc2) ?_
        refine rr_iload_n pf_152_76 rfl ?_
        refine rr_aald pf_152_77 (cs_8 hW hc2) (by omega) (by omega) (by simp only [rg, rl] at *; omega) (by decide) (by rw [Int.toNat_natCast]; exact g1) ?_
        refine rr_aast pf_152_78 (cs_8 hW hcb) (by omega) (by omega) (by simp only [rg, rl] at *; omega) (by decide) g3 (fun M2 eM2 => ?_)
        have hE3 : px_eo [cb + 8] M0 M2 := eo_tr hq.2.2 (by rw [eM2]; exact eo_up (by simp))
        have hF4 : px_Fx M2 := by rw [eM2]; exact fx_up hW hq.1 (cs_8 hW hcb) (Or.inr rfl)
        have hG5 : px_RG sh M2 := by rw [eM2]; exact rg_up hq.2.1 (cs_8 hW hcb) (by rw [px_ty13]; decide) (by unfold rg; omega)
        refine rr_iinc pf_152_79 rfl (fun y => [.ref cb, .ref c2, .int (iI (y))]) (fun _ => rfl) (fun y6 hy6 => ?_)
        refine rr_goto 61 pf_152_82 (by decide) ?_
        obtain rfl : y6 = ((i + 1 : Nat) : Int) := by omega
        refine ih (i + 1) M2 (by omega) ⟨hF4, hG5, hE3⟩ (fun n hn => ?_) k
        rw [eM2, ask_up, Int.toNat_natCast]
        rcases (show n = i ∨ n < i by omega) with rfl | hn2
        · rw [if_pos rfl, ← hq.2.2 (c2 + 8) (by simp <;> omega)]; exact g1.symm
        · rw [if_neg (by omega)]; exact hl n hn2
theorem rc_far {M : Nat → Nat → Int} {cb j : Nat} (h : 109 ≤ j) : rc M cb j = 0 := by
  unfold rc
  rw [if_neg (by omega), if_neg (by omega), if_neg (by omega), if_neg (by omega), if_neg (by omega), if_neg (by omega), if_neg (by omega), if_neg (by omega), if_neg (by omega), if_neg (by omega), if_neg (by omega), if_neg (by omega), if_neg (by omega), if_neg (by omega), if_neg (by omega)]
theorem ct_Church_copyFrom {xs : Nat → Int} {L d : Nat} {sh : List (Nat × Nat)} {M : Nat → Nat → Int} (hd : 2 ≤ d) (hW : px_W0 <+: sh) (hF : px_Fx M) (hG : px_RG sh M) {cb : Nat} (hcb : px_ch cb) {c2 : Nat} (hc2 : px_ch c2) (hne : cb ≠ c2) (hok : px_lOK sh M c2) : ∃ M', (px_qk sh (px_chA cb) M M' ∧ rc M' cb = rc M c2 ∧ ∀ n, n < 6 → M' (cb + 8) n = M (c2 + 8) n) ∧ px_Cl xs L d 152 [.ref cb, .ref c2] (sh, M) none (sh, M') := by
  obtain ⟨d, rfl⟩ : ∃ e, d = e + 1 := ⟨d - 1, by omega⟩
  have hcl := ch_far hcb hc2
  have hcl2 := ch_far hc2 hcb
  refine px_Cl_m (Nat.le_of_ble_eq_true rfl) ?_
  show px_R xs L d 152 (0, [.ref cb, .ref c2, px_jk], [], (sh, M)) _
  refine rr_aload_n pf_152_0 rfl ?_
  refine rr_getR pf_152_1 po_152 pg_0_12 rfl (cs_z hW hcb) (by decide) (cf_0_0 hF hcb) ?_
  refine rr_aload_n pf_152_4 rfl ?_
  refine rr_getR pf_152_5 po_152 pg_0_12 rfl (cs_z hW hc2) (by decide) (cf_0_0 hF hc2) ?_
  obtain ⟨M1, ⟨qM1, zM1⟩, hcM1⟩ := ct_Nave_copyFrom (xs := xs) (L := L) (d := d) (by omega) hW hF hG (ch_nv hcb) (ch_nv hc2) (by omega)
  refine rr_cV1 pf_152_8 po_152 pc_0_66 (cs_1 hW hcb) po_94 (by decide) rfl hcM1 ?_
  have hE2 : px_eo (px_chA cb) M M1 := eo_tr eo_rf (eo_mono qM1.2.2 (by simp <;> omega))
  refine rr_aload_n pf_152_11 rfl ?_
  refine rr_getR pf_152_12 po_152 pg_0_18 rfl (cs_z hW hc2) (by decide) (cf_0_1 qM1.1 hc2) ?_
  refine rr_iconst pf_152_15 ?_
  refine rr_aload_n pf_152_16 rfl ?_
  refine rr_getR pf_152_17 po_152 pg_0_18 rfl (cs_z hW hcb) (by decide) (cf_0_1 qM1.1 hcb) ?_
  refine rr_iconst pf_152_20 ?_
  refine rr_bipush pf_152_21 (by decide) ?_
  refine rr_copy pf_152_23 po_152 pc_0_70 rfl (cs_5 hW hc2) (cs_5 hW hcb) (by omega) (by omega) (by omega) (by omega) (by omega) ⟨by unfold rg; omega, by unfold rg; omega, by unfold rg; omega⟩ (fun M3 eM3 => ?_)
  have hF4 : px_Fx M3 := by rw [eM3]; exact fx_cl hW qM1.1 (cs_5 hW hcb) (by decide)
  have hG5 : px_RG sh M3 := by rw [eM3]; exact rg_copy qM1.2.1 (cs_5 hW hc2) (cs_5 hW hcb)
  have hE6 : px_eo (px_chA cb) M M3 := eo_tr hE2 (by rw [eM3]; exact eo_cl (by simp))
  refine rr_aload_n pf_152_26 rfl ?_
  refine rr_getR pf_152_27 po_152 pg_0_22 rfl (cs_z hW hc2) (by decide) (cf_0_2 hF4 hc2) ?_
  refine rr_iconst pf_152_30 ?_
  refine rr_aload_n pf_152_31 rfl ?_
  refine rr_getR pf_152_32 po_152 pg_0_22 rfl (cs_z hW hcb) (by decide) (cf_0_2 hF4 hcb) ?_
  refine rr_iconst pf_152_35 ?_
  refine rr_bipush pf_152_36 (by decide) ?_
  refine rr_copy pf_152_38 po_152 pc_0_70 rfl (cs_6 hW hc2) (cs_6 hW hcb) (by omega) (by omega) (by omega) (by omega) (by omega) ⟨by unfold rg; omega, by unfold rg; omega, by unfold rg; omega⟩ (fun M7 eM7 => ?_)
  have hF8 : px_Fx M7 := by rw [eM7]; exact fx_cl hW hF4 (cs_6 hW hcb) (by decide)
  have hG9 : px_RG sh M7 := by rw [eM7]; exact rg_copy hG5 (cs_6 hW hc2) (cs_6 hW hcb)
  have hE10 : px_eo (px_chA cb) M M7 := eo_tr hE6 (by rw [eM7]; exact eo_cl (by simp))
  refine rr_aload_n pf_152_41 rfl ?_
  refine rr_getR pf_152_42 po_152 pg_0_25 rfl (cs_z hW hc2) (by decide) (cf_0_3 hF8 hc2) ?_
  refine rr_iconst pf_152_45 ?_
  refine rr_aload_n pf_152_46 rfl ?_
  refine rr_getR pf_152_47 po_152 pg_0_25 rfl (cs_z hW hcb) (by decide) (cf_0_3 hF8 hcb) ?_
  refine rr_iconst pf_152_50 ?_
  refine rr_aload_n pf_152_51 rfl ?_
  refine rr_getR pf_152_52 po_152 pg_0_25 rfl (cs_z hW hcb) (by decide) (cf_0_3 hF8 hcb) ?_
  refine rr_alen pf_152_55 (cs_7 hW hcb) (by decide) ?_
  refine rr_copy pf_152_56 po_152 pc_0_70 rfl (cs_7 hW hc2) (cs_7 hW hcb) (by omega) (by omega) (by omega) (by omega) (by omega) ⟨by unfold rg; omega, by unfold rg; omega, by unfold rg; omega⟩ (fun M11 eM11 => ?_)
  have hF12 : px_Fx M11 := by rw [eM11]; exact fx_cl hW hF8 (cs_7 hW hcb) (by decide)
  have hG13 : px_RG sh M11 := by rw [eM11]; exact rg_copy hG9 (cs_7 hW hc2) (cs_7 hW hcb)
  have hE14 : px_eo (px_chA cb) M M11 := eo_tr hE10 (by rw [eM11]; exact eo_cl (by simp))
  refine rr_iconst pf_152_59 ?_
  refine rr_istore_n pf_152_60 (fun y => [.ref cb, .ref c2, .int (iI (y))]) (Nat.le_of_ble_eq_true rfl) (fun _ => rfl) (fun y15 hy15 => ?_)
  obtain rfl : y15 = ((0 : Nat) : Int) := by omega
  have A1 : ∀ j, nn M11 (cb + 1) j = nn M1 (cb + 1) j := nn_eq (fun i hi => by rw [eM11, cp_ne (by omega), eM7, cp_ne (by omega), eM3, cp_ne (by omega)])
  have A5 : ∀ j, j < 8 → M11 (cb + 5) j = M (c2 + 5) j := fun j hj => by rw [eM11, cp_ne (by omega), eM7, cp_ne (by omega), eM3, ask_cp, if_pos (by omega), hE2 (c2 + 5) (by simp <;> omega)]; congr 1; omega
  have A6 : ∀ j, j < 8 → M11 (cb + 6) j = M (c2 + 6) j := fun j hj => by rw [eM11, cp_ne (by omega), eM7, ask_cp, if_pos (by omega), hE6 (c2 + 6) (by simp <;> omega)]; congr 1; omega
  have A7 : ∀ j, j < 24 → M11 (cb + 7) j = M (c2 + 7) j := fun j hj => by rw [eM11, ask_cp, if_pos (by omega), hE10 (c2 + 7) (by simp <;> omega)]; congr 1; omega
  have e8 : M11 (c2 + 8) = M (c2 + 8) := hE14 (c2 + 8) (by simp <;> omega)
  refine lp_Church_copyFrom hW hcb hc2 hne (fun n hn => by rw [e8]; exact hok n hn) 6 0 M11 (by omega) ⟨hF12, hG13, eo_rf⟩ (fun n hn => absurd hn (by omega)) (fun Mb qb lb => ?_)
  have hEb : px_eo (px_chA cb) M Mb := eo_tr hE14 (eo_mono qb.2.2 (by simp))
  refine rr_aload_n pf_152_85 rfl ?_
  refine rr_aload_n pf_152_86 rfl ?_
  refine rr_getI pf_152_87 po_152 pg_0_37 rfl (cs_z hW hc2) (by decide) ?_
  refine rr_putI pf_152_90 po_152 pg_0_37 (Or.inl rfl) rfl (cs_z hW hcb) (by decide) (rg_at qb.2.1 (cs_z hW hc2) (by decide)) (fun M1 eM1 => ?_)
  have hE2 : px_eo (px_chA cb) M M1 := eo_tr hEb (by rw [eM1]; exact eo_up (by simp))
  have hF3 : px_Fx M1 := by rw [eM1]; exact fx_up hW qb.1 (cs_z hW hcb) (Or.inl (by decide))
  have hG4 : px_RG sh M1 := by rw [eM1]; exact rg_up qb.2.1 (cs_z hW hcb) (by decide) (rg_at qb.2.1 (cs_z hW hc2) (by decide))
  refine rr_aload_n pf_152_93 rfl ?_
  refine rr_aload_n pf_152_94 rfl ?_
  refine rr_getI pf_152_95 po_152 pg_0_41 rfl (cs_z hW hc2) (by decide) ?_
  refine rr_putI pf_152_98 po_152 pg_0_41 (Or.inl rfl) rfl (cs_z hW hcb) (by decide) (rg_at hG4 (cs_z hW hc2) (by decide)) (fun M5 eM5 => ?_)
  have hE6 : px_eo (px_chA cb) M M5 := eo_tr hE2 (by rw [eM5]; exact eo_up (by simp))
  have hF7 : px_Fx M5 := by rw [eM5]; exact fx_up hW hF3 (cs_z hW hcb) (Or.inl (by decide))
  have hG8 : px_RG sh M5 := by rw [eM5]; exact rg_up hG4 (cs_z hW hcb) (by decide) (rg_at hG4 (cs_z hW hc2) (by decide))
  refine rr_aload_n pf_152_101 rfl ?_
  refine rr_aload_n pf_152_102 rfl ?_
  refine rr_getI pf_152_103 po_152 pg_0_44 rfl (cs_z hW hc2) (by decide) ?_
  refine rr_putI pf_152_106 po_152 pg_0_44 (Or.inl rfl) rfl (cs_z hW hcb) (by decide) (rg_at hG8 (cs_z hW hc2) (by decide)) (fun M9 eM9 => ?_)
  have hE10 : px_eo (px_chA cb) M M9 := eo_tr hE6 (by rw [eM9]; exact eo_up (by simp))
  have hF11 : px_Fx M9 := by rw [eM9]; exact fx_up hW hF7 (cs_z hW hcb) (Or.inl (by decide))
  have hG12 : px_RG sh M9 := by rw [eM9]; exact rg_up hG8 (cs_z hW hcb) (by decide) (rg_at hG8 (cs_z hW hc2) (by decide))
  refine rr_aload_n pf_152_109 rfl ?_
  refine rr_aload_n pf_152_110 rfl ?_
  refine rr_getI pf_152_111 po_152 pg_0_47 rfl (cs_z hW hc2) (by decide) ?_
  refine rr_putI pf_152_114 po_152 pg_0_47 (Or.inl rfl) rfl (cs_z hW hcb) (by decide) (rg_at hG12 (cs_z hW hc2) (by decide)) (fun M13 eM13 => ?_)
  have hE14 : px_eo (px_chA cb) M M13 := eo_tr hE10 (by rw [eM13]; exact eo_up (by simp))
  have hF15 : px_Fx M13 := by rw [eM13]; exact fx_up hW hF11 (cs_z hW hcb) (Or.inl (by decide))
  have hG16 : px_RG sh M13 := by rw [eM13]; exact rg_up hG12 (cs_z hW hcb) (by decide) (rg_at hG12 (cs_z hW hc2) (by decide))
  refine rr_aload_n pf_152_117 rfl ?_
  refine rr_aload_n pf_152_118 rfl ?_
  refine rr_getI pf_152_119 po_152 pg_0_50 rfl (cs_z hW hc2) (by decide) ?_
  refine rr_putI pf_152_122 po_152 pg_0_50 (Or.inl rfl) rfl (cs_z hW hcb) (by decide) (rg_at hG16 (cs_z hW hc2) (by decide)) (fun M17 eM17 => ?_)
  have hE18 : px_eo (px_chA cb) M M17 := eo_tr hE14 (by rw [eM17]; exact eo_up (by simp))
  have hF19 : px_Fx M17 := by rw [eM17]; exact fx_up hW hF15 (cs_z hW hcb) (Or.inl (by decide))
  have hG20 : px_RG sh M17 := by rw [eM17]; exact rg_up hG16 (cs_z hW hcb) (by decide) (rg_at hG16 (cs_z hW hc2) (by decide))
  refine rr_aload_n pf_152_125 rfl ?_
  refine rr_aload_n pf_152_126 rfl ?_
  refine rr_getI pf_152_127 po_152 pg_0_53 rfl (cs_z hW hc2) (by decide) ?_
  refine rr_putI pf_152_130 po_152 pg_0_53 (Or.inl rfl) rfl (cs_z hW hcb) (by decide) (rg_at hG20 (cs_z hW hc2) (by decide)) (fun M21 eM21 => ?_)
  have hE22 : px_eo (px_chA cb) M M21 := eo_tr hE18 (by rw [eM21]; exact eo_up (by simp))
  have hF23 : px_Fx M21 := by rw [eM21]; exact fx_up hW hF19 (cs_z hW hcb) (Or.inl (by decide))
  have hG24 : px_RG sh M21 := by rw [eM21]; exact rg_up hG20 (cs_z hW hcb) (by decide) (rg_at hG20 (cs_z hW hc2) (by decide))
  refine rr_aload_n pf_152_133 rfl ?_
  refine rr_aload_n pf_152_134 rfl ?_
  refine rr_getI pf_152_135 po_152 pg_0_56 rfl (cs_z hW hc2) (by decide) ?_
  refine rr_putI pf_152_138 po_152 pg_0_56 (Or.inl rfl) rfl (cs_z hW hcb) (by decide) (rg_at hG24 (cs_z hW hc2) (by decide)) (fun M25 eM25 => ?_)
  have hE26 : px_eo (px_chA cb) M M25 := eo_tr hE22 (by rw [eM25]; exact eo_up (by simp))
  have hF27 : px_Fx M25 := by rw [eM25]; exact fx_up hW hF23 (cs_z hW hcb) (Or.inl (by decide))
  have hG28 : px_RG sh M25 := by rw [eM25]; exact rg_up hG24 (cs_z hW hcb) (by decide) (rg_at hG24 (cs_z hW hc2) (by decide))
  have u6 : M25 cb 6 = M c2 6 := by rw [eM25, ask_up, if_neg (by decide), eM21, ask_up, if_neg (by decide), eM17, ask_up, if_neg (by decide), eM13, ask_up, if_neg (by decide), eM9, ask_up, if_neg (by decide), eM5, ask_up, if_neg (by decide), eM1, ask_up, if_pos rfl, hEb c2 (by simp <;> omega)]
  have u7 : M25 cb 7 = M c2 7 := by rw [eM25, ask_up, if_neg (by decide), eM21, ask_up, if_neg (by decide), eM17, ask_up, if_neg (by decide), eM13, ask_up, if_neg (by decide), eM9, ask_up, if_neg (by decide), eM5, ask_up, if_pos rfl, hE2 c2 (by simp <;> omega)]
  have u8 : M25 cb 8 = M c2 8 := by rw [eM25, ask_up, if_neg (by decide), eM21, ask_up, if_neg (by decide), eM17, ask_up, if_neg (by decide), eM13, ask_up, if_neg (by decide), eM9, ask_up, if_pos rfl, hE6 c2 (by simp <;> omega)]
  have u9 : M25 cb 9 = M c2 9 := by rw [eM25, ask_up, if_neg (by decide), eM21, ask_up, if_neg (by decide), eM17, ask_up, if_neg (by decide), eM13, ask_up, if_pos rfl, hE10 c2 (by simp <;> omega)]
  have u10 : M25 cb 10 = M c2 10 := by rw [eM25, ask_up, if_neg (by decide), eM21, ask_up, if_neg (by decide), eM17, ask_up, if_pos rfl, hE14 c2 (by simp <;> omega)]
  have u11 : M25 cb 11 = M c2 11 := by rw [eM25, ask_up, if_neg (by decide), eM21, ask_up, if_pos rfl, hE18 c2 (by simp <;> omega)]
  have u12 : M25 cb 12 = M c2 12 := by rw [eM25, ask_up, if_pos rfl, hE22 c2 (by simp <;> omega)]
  have eA : ∀ b, b ≠ cb → M25 b = Mb b := fun b hb => by rw [eM25, ask_ne hb, eM21, ask_ne hb, eM17, ask_ne hb, eM13, ask_ne hb, eM9, ask_ne hb, eM5, ask_ne hb, eM1, ask_ne hb]
  have eB : ∀ i, 1 ≤ i → i < 8 → M25 (cb + i) = M11 (cb + i) := fun i h1 h2 => by rw [eA _ (by omega), qb.2.2 (cb + i) (by simp <;> omega)]
  have gN : ∀ j, (j = 5 ∨ 8 ≤ j) ∧ j < 69 → rc M25 cb j = rc M c2 j := fun j hj => by rw [nn_rc hj, nn_rc hj, nn_eq (M := M11) (nb := cb + 1) (fun i hi => by rw [show cb + 1 + i = cb + (1 + i) by omega]; exact eB (1 + i) (by omega) (by omega)), A1]; exact zM1 j hj
  have gR : rc M25 cb = rc M c2 := by
    funext j
    by_cases hj : (j = 5 ∨ 8 ≤ j) ∧ j < 69
    · exact gN j hj
    · rcases (show j = 0 ∨ j = 1 ∨ j = 2 ∨ j = 3 ∨ j = 4 ∨ j = 6 ∨ j = 7 ∨ (∃ i, j = 69 + i ∧ i < 8) ∨ (∃ i, j = 77 + i ∧ i < 8) ∨ (∃ i, j = 85 + i ∧ i < 24) ∨ 109 ≤ j by
        rcases (show j < 69 ∨ (69 ≤ j ∧ j < 77) ∨ (77 ≤ j ∧ j < 85) ∨ (85 ≤ j ∧ j < 109) ∨ 109 ≤ j by omega) with h | h | h | h | h
        · omega
        · exact Or.inr (Or.inr (Or.inr (Or.inr (Or.inr (Or.inr (Or.inr (Or.inl ⟨j - 69, by omega, by omega⟩)))))))
        · exact Or.inr (Or.inr (Or.inr (Or.inr (Or.inr (Or.inr (Or.inr (Or.inr (Or.inl ⟨j - 77, by omega, by omega⟩))))))))
        · exact Or.inr (Or.inr (Or.inr (Or.inr (Or.inr (Or.inr (Or.inr (Or.inr (Or.inr (Or.inl ⟨j - 85, by omega, by omega⟩)))))))))
        · exact Or.inr (Or.inr (Or.inr (Or.inr (Or.inr (Or.inr (Or.inr (Or.inr (Or.inr (Or.inr h)))))))))) with rfl | rfl | rfl | rfl | rfl | rfl | rfl | ⟨i, rfl, hi⟩ | ⟨i, rfl, hi⟩ | ⟨i, rfl, hi⟩ | h
      · exact u6
      · exact u7
      · exact u8
      · exact u9
      · exact u10
      · exact u11
      · exact u12
      · rw [rc_wh hi, rc_wh hi, eB 5 (by omega) (by omega)]; exact A5 i hi
      · rw [rc_wf hi, rc_wf hi, eB 6 (by omega) (by omega)]; exact A6 i hi
      · rw [rc_told hi, rc_told hi, eB 7 (by omega) (by omega)]; exact A7 i hi
      · rw [rc_far h, rc_far h]
  refine rr_vret pf_152_141 pt_152 ⟨rfl, _, rfl, ⟨hF27, hG28, hE26⟩, gR, fun n hn => by rw [eA _ (by omega), lb n hn, e8]⟩

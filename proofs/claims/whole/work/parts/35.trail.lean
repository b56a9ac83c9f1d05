/-! the trail -/
def px_trL : List Nat := [27, 103]
def px_tr (t : Nat) : Prop := t ∈ px_trL
section TRL
variable {sh : List (Nat × Nat)} {M : Nat → Nat → Int} {tb : Nat}
theorem tr_or (h : px_tr tb) : tb = 27 ∨ tb = 103 := by simpa [px_tr, px_trL] using h
theorem ts_0 (hW : px_W0 <+: sh) (h : px_tr tb) : sh[tb]? = some (7, 4) := px_sh hW ((show ∀ c ∈ px_trL, px_W0[c]? = some (7, 4) by decide +kernel) tb h)
theorem ts_1 (hW : px_W0 <+: sh) (h : px_tr tb) : sh[tb + 1]? = some (14, 17) := px_sh hW ((show ∀ c ∈ px_trL, px_W0[c + 1]? = some (14, 17) by decide +kernel) tb h)
theorem ts_2 (hW : px_W0 <+: sh) (h : px_tr tb) : sh[tb + 2]? = some (10, 17) := px_sh hW ((show ∀ c ∈ px_trL, px_W0[c + 2]? = some (10, 17) by decide +kernel) tb h)
theorem tf_0 (hF : px_Fx M) (h : px_tr tb) : M tb 0 = ((tb + 1 : Nat) : Int) := px_fx hF (kd := 7) (n := 4) ((show ∀ c ∈ px_trL, px_W0[c]? = some (7, 4) by decide +kernel) tb h) (by decide +kernel) (by decide +kernel) (by decide +kernel) ((show ∀ c ∈ px_trL, px_M0 c 0 = ((c + 1 : Nat) : Int) by decide +kernel) tb h)
theorem tf_1 (hF : px_Fx M) (h : px_tr tb) : M tb 1 = ((tb + 2 : Nat) : Int) := px_fx hF (kd := 7) (n := 4) ((show ∀ c ∈ px_trL, px_W0[c]? = some (7, 4) by decide +kernel) tb h) (by decide +kernel) (by decide +kernel) (by decide +kernel) ((show ∀ c ∈ px_trL, px_M0 c 1 = ((c + 2 : Nat) : Int) by decide +kernel) tb h)
theorem tr_nv (h : px_tr tb) {s : Nat} (hs : s < 17) : px_nv (tb + 3 + 4 * s) := (show ∀ c ∈ px_trL, ∀ s, s < 17 → c + 3 + 4 * s ∈ px_nvL by decide +kernel) tb h s hs
theorem px_ty14 (j : Nat) : px_ty 14 j = 2 := rfl
theorem tr_ah (hF : px_Fx M) (h : px_tr tb) {s : Nat} (hs : s < 17) : M (tb + 1) s = ((tb + 3 + 4 * s : Nat) : Int) := px_fx hF (kd := 14) (n := 17) ((show ∀ c ∈ px_trL, px_W0[c + 1]? = some (14, 17) by decide +kernel) tb h) (by decide) (px_ty14 s) hs ((show ∀ c ∈ px_trL, ∀ s, s < 17 → px_M0 (c + 1) s = ((c + 3 + 4 * s : Nat) : Int) by decide +kernel) tb h s hs)
/-- a trail's numbers are in order -/
def tr_ok (M : Nat → Nat → Int) (tb : Nat) : Prop := (0 ≤ M tb 2 ∧ M tb 2 ≤ 16) ∧ (0 ≤ M tb 3 ∧ M tb 3 ≤ 16)
/-- the slot i behind the first -/
def tr_sl (M : Nat → Nat → Int) (tb i : Nat) : Nat := ((M tb 2).toNat + i) % 17
end TRL
theorem ct_Trail_clear {xs : Nat → Int} {L d : Nat} {sh : List (Nat × Nat)} {M : Nat → Nat → Int} (hd : 1 ≤ d) (hW : px_W0 <+: sh) (hF : px_Fx M) (hG : px_RG sh M) {tb : Nat} (htb : px_tr tb) (hto : tr_ok M tb) : ∃ M', (px_qk sh [tb] M M' ∧ M' = px_up M tb 3 0) ∧ px_Cl xs L d 14 [.ref tb] (sh, M) (none) (sh, M') := by
  obtain ⟨d, rfl⟩ : ∃ e, d = e + 1 := ⟨d - 1, by omega⟩

  refine px_Cl_m (Nat.le_of_ble_eq_true rfl) ?_
  show px_R xs L d 14 (0, [.ref tb], [], (sh, M)) _
  refine rr_aload_n pf_14_0 rfl ?_
  refine rr_iconst pf_14_1 ?_
  refine rr_putI pf_14_2 po_14 pg_7_25 (Or.inl rfl) rfl (ts_0 hW htb) (by decide) (by simp only [rg, rl] at *; omega) (fun M1 eM1 => ?_)
  have hE2 : px_eo [tb] M M1 := eo_tr eo_rf (by rw [eM1]; exact eo_up (by simp))
  have hF3 : px_Fx M1 := by rw [eM1]; exact fx_up hW hF (ts_0 hW htb) (Or.inl (by decide))
  have hG4 : px_RG sh M1 := by rw [eM1]; exact rg_up hG (ts_0 hW htb) (by decide) (by simp only [rg, rl] at *; omega)
  refine rr_vret pf_14_5 pt_14 ⟨rfl, _, rfl, ⟨hF3, hG4, hE2⟩, by rw [eM1]⟩
theorem ct_Trail_hold {xs : Nat → Int} {L d : Nat} {sh : List (Nat × Nat)} {M : Nat → Nat → Int} (hd : 2 ≤ d) (hW : px_W0 <+: sh) (hF : px_Fx M) (hG : px_RG sh M) {tb : Nat} (htb : px_tr tb) (hto : tr_ok M tb) {nb : Nat} (hnb : px_nv nb) (hnt : nb < tb ∨ tb + 71 ≤ nb) : ∃ M', (px_qk sh (px_nvA (tb + 3 + 4 * tr_sl M tb (M tb 3).toNat)) M M' ∧ nnEq M' M (tb + 3 + 4 * tr_sl M tb (M tb 3).toNat) nb) ∧ px_Cl xs L d 100 [.ref tb, .ref nb] (sh, M) (none) (sh, M') := by
  obtain ⟨d, rfl⟩ : ∃ e, d = e + 1 := ⟨d - 1, by omega⟩
  have hor := tr_or htb
  obtain ⟨⟨o1, o2⟩, o3, o4⟩ := hto
  have hsl : tr_sl M tb (M tb 3).toNat < 17 := by unfold tr_sl; omega
  obtain ⟨sb, esb⟩ : ∃ s, s = tb + 3 + 4 * tr_sl M tb (M tb 3).toNat := ⟨_, rfl⟩
  have hsb := tr_nv htb hsl
  rw [← esb] at hsb
  have hfar := nv_far hsb hnb
  refine px_Cl_m (Nat.le_of_ble_eq_true rfl) ?_
  show px_R xs L d 100 (0, [.ref tb, .ref nb], [], (sh, M)) _
  refine rr_aload_n pf_100_0 rfl ?_
  refine rr_getR pf_100_1 po_100 pg_7_13 rfl (ts_0 hW htb) (by decide) (tf_0 hF htb) ?_
  refine rr_aload_n pf_100_4 rfl ?_
  refine rr_getI pf_100_5 po_100 pg_7_21 rfl (ts_0 hW htb) (by decide) ?_
  refine rr_aload_n pf_100_8 rfl ?_
  refine rr_getI pf_100_9 po_100 pg_7_25 rfl (ts_0 hW htb) (by decide) ?_
  refine rr_iadd pf_100_12 ?_
  refine rr_bipush pf_100_13 (by decide) ?_
  refine rr_iremP pf_100_15 (by simp only [rg, rl] at *; omega) (by simp only [rg, rl] at *; omega) (by omega) (by omega) ?_
  have hsn : (((M tb 2) + (M tb 3)) % 17).toNat = tr_sl M tb (M tb 3).toNat := by unfold tr_sl; omega
  have hah : M (tb + 1) (((M tb 2) + (M tb 3)) % 17).toNat = ((sb : Nat) : Int) := by rw [hsn, tr_ah hF htb hsl, esb]
  refine rr_aald pf_100_16 (ts_1 hW htb) (by omega) (by omega) (by simp only [rg, rl] at *; omega) (by decide) hah ?_
  refine rr_aload_n pf_100_17 rfl ?_
  obtain ⟨M1, ⟨qM1, zM1⟩, hcM1⟩ := ct_Nave_copyFrom (xs := xs) (L := L) (d := d) (by omega) hW hF hG hsb hnb (by omega)
  refine rr_cV1 pf_100_18 po_100 pc_7_29 (ns_z hW hsb) po_94 (by decide) rfl hcM1 ?_
  have hE2 : px_eo (px_nvA (tb + 3 + 4 * tr_sl M tb (M tb 3).toNat)) M M1 := eo_tr eo_rf (eo_mono qM1.2.2 (by rw [esb]; exact fun _ h => h))
  refine rr_vret pf_100_21 pt_100 ⟨rfl, _, rfl, ⟨qM1.1, qM1.2.1, hE2⟩, by rw [← esb]; exact zM1⟩
theorem ct_Trail_keep {xs : Nat → Int} {L d : Nat} {sh : List (Nat × Nat)} {M : Nat → Nat → Int} (hd : 1 ≤ d) (hW : px_W0 <+: sh) (hF : px_Fx M) (hG : px_RG sh M) {tb : Nat} (htb : px_tr tb) (hto : tr_ok M tb) {kd : Int} (hkd : rg kd) : ∃ M', (px_qk sh [tb, tb + 2] M M' ∧ M' (tb + 2) = (fun j => if j = tr_sl M tb (M tb 3).toNat then kd else M (tb + 2) j) ∧ M' tb 2 = (if M tb 3 < 16 then M tb 2 else (M tb 2 + 1) % 17) ∧ M' tb 3 = (if M tb 3 < 16 then M tb 3 + 1 else M tb 3)) ∧ px_Cl xs L d 107 [.ref tb, .int (iI (kd))] (sh, M) (none) (sh, M') := by
  obtain ⟨d, rfl⟩ : ∃ e, d = e + 1 := ⟨d - 1, by omega⟩
  have hor := tr_or htb
  obtain ⟨⟨o1, o2⟩, o3, o4⟩ := hto
  refine px_Cl_m (Nat.le_of_ble_eq_true rfl) ?_
  show px_R xs L d 107 (0, [.ref tb, .int (iI (kd))], [], (sh, M)) _
  refine rr_aload_n pf_107_0 rfl ?_
  refine rr_getR pf_107_1 po_107 pg_7_17 rfl (ts_0 hW htb) (by decide) (tf_1 hF htb) ?_
  refine rr_aload_n pf_107_4 rfl ?_
  refine rr_getI pf_107_5 po_107 pg_7_21 rfl (ts_0 hW htb) (by decide) ?_
  refine rr_aload_n pf_107_8 rfl ?_
  refine rr_getI pf_107_9 po_107 pg_7_25 rfl (ts_0 hW htb) (by decide) ?_
  refine rr_iadd pf_107_12 ?_
  refine rr_bipush pf_107_13 (by decide) ?_
  refine rr_iremP pf_107_15 (by simp only [rg, rl] at *; omega) (by simp only [rg, rl] at *; omega) (by omega) (by omega) ?_
  refine rr_iload_n pf_107_16 rfl ?_
  refine rr_iast pf_107_17 (ts_2 hW htb) (by omega) (by omega) (by simp only [rg, rl] at *; omega) hkd (fun M1 eM1 => ?_)
  have hE2 : px_eo [tb, tb + 2] M M1 := eo_tr eo_rf (by rw [eM1]; exact eo_up (by simp))
  have hF3 : px_Fx M1 := by rw [eM1]; exact fx_up hW hF (ts_2 hW htb) (Or.inl (by rw [px_ty10]; decide))
  have hG4 : px_RG sh M1 := by rw [eM1]; exact rg_up hG (ts_2 hW htb) (by rw [px_ty10]; decide) hkd
  have t2 : M1 tb 2 = M tb 2 := by rw [eM1, ask_ne (by omega)]
  have t3 : M1 tb 3 = M tb 3 := by rw [eM1, ask_ne (by omega)]
  skip
  refine rr_aload_n pf_107_18 rfl ?_
  refine rr_getI pf_107_19 po_107 pg_7_25 rfl (ts_0 hW htb) (by decide) ?_
  refine rr_bipush pf_107_22 (by decide) ?_
  refine rr_icmp_ge 40 pf_107_24 (by decide) (rg_at hG4 (ts_0 hW htb) (by decide)) (by simp only [rg, rl] at *; omega) (fun c5 => ?_) (fun c5 => ?_)
  · refine rr_aload_n pf_107_40 rfl ?_
    refine rr_aload_n pf_107_41 rfl ?_
    refine rr_getI pf_107_42 po_107 pg_7_21 rfl (ts_0 hW htb) (by decide) ?_
    refine rr_iconst pf_107_45 ?_
    refine rr_iadd pf_107_46 ?_
    refine rr_bipush pf_107_47 (by decide) ?_
    refine rr_iremP pf_107_49 (by simp only [rg, rl] at *; omega) (by simp only [rg, rl] at *; omega) (by omega) (by omega) ?_
    refine rr_putI pf_107_50 po_107 pg_7_21 (Or.inl rfl) rfl (ts_0 hW htb) (by decide) (by simp only [rg, rl] at *; omega) (fun M6 eM6 => ?_)
    have hE7 : px_eo [tb, tb + 2] M M6 := eo_tr hE2 (by rw [eM6]; exact eo_up (by simp))
    have hF8 : px_Fx M6 := by rw [eM6]; exact fx_up hW hF3 (ts_0 hW htb) (Or.inl (by decide))
    have hG9 : px_RG sh M6 := by rw [eM6]; exact rg_up hG4 (ts_0 hW htb) (by decide) (by simp only [rg, rl] at *; omega)
    refine rr_vret pf_107_53 pt_107 ⟨rfl, _, rfl, ⟨hF8, hG9, hE7⟩, by rw [eM6, ask_ne (by omega), eM1, show ((M tb 2 + M tb 3) % 17).toNat = tr_sl M tb (M tb 3).toNat by unfold tr_sl; omega]; funext j; rw [ask_up], by rw [eM6, ask_up, if_pos rfl, eM1, ask_ne (by omega), if_neg (by omega)], by rw [eM6, ask_up, if_neg (by decide), eM1, ask_ne (by omega), if_neg (by omega)]⟩
  · refine rr_aload_n pf_107_27 rfl ?_
    refine rr_dup pf_107_28 rfl ?_
    refine rr_getI pf_107_29 po_107 pg_7_25 rfl (ts_0 hW htb) (by decide) ?_
    refine rr_iconst pf_107_32 ?_
    refine rr_iadd pf_107_33 ?_
    refine rr_putI pf_107_34 po_107 pg_7_25 (Or.inl rfl) rfl (ts_0 hW htb) (by decide) (by simp only [rg, rl] at *; omega) (fun M10 eM10 => ?_)
    have hE11 : px_eo [tb, tb + 2] M M10 := eo_tr hE2 (by rw [eM10]; exact eo_up (by simp))
    have hF12 : px_Fx M10 := by rw [eM10]; exact fx_up hW hF3 (ts_0 hW htb) (Or.inl (by decide))
    have hG13 : px_RG sh M10 := by rw [eM10]; exact rg_up hG4 (ts_0 hW htb) (by decide) (by simp only [rg, rl] at *; omega)
    refine rr_goto 53 pf_107_37 (by decide) ?_
    refine rr_vret pf_107_53 pt_107 ⟨rfl, _, rfl, ⟨hF12, hG13, hE11⟩, by rw [eM10, ask_ne (by omega), eM1, show ((M tb 2 + M tb 3) % 17).toNat = tr_sl M tb (M tb 3).toNat by unfold tr_sl; omega]; funext j; rw [ask_up], by rw [eM10, ask_up, if_neg (by decide), eM1, ask_ne (by omega), if_pos (by omega)], by rw [eM10, ask_up, if_pos rfl, eM1, ask_ne (by omega), if_pos (by omega)]⟩
theorem ct_Trail_takeLatest {xs : Nat → Int} {L d : Nat} {sh : List (Nat × Nat)} {M : Nat → Nat → Int} (hd : 2 ≤ d) (hW : px_W0 <+: sh) (hF : px_Fx M) (hG : px_RG sh M) {tb : Nat} (htb : px_tr tb) (hto : tr_ok M tb) (h0 : 0 < M tb 3) {nb : Nat} (hnb : px_nv nb) (hnt : nb + 4 ≤ tb ∨ tb + 71 ≤ nb) : ∃ M', (px_qk sh (tb :: px_nvA nb) M M' ∧ (M' tb = px_up M tb 3 (M tb 3 - 1) tb ∧ nnEq M' M nb (tb + 3 + 4 * tr_sl M tb ((M tb 3).toNat - 1)))) ∧ px_Cl xs L d 119 [.ref tb, .ref nb] (sh, M) (some (.int (iI (M (tb + 2) (tr_sl M tb ((M tb 3).toNat - 1)))))) (sh, M') := by
  obtain ⟨d, rfl⟩ : ∃ e, d = e + 1 := ⟨d - 1, by omega⟩
  have hor := tr_or htb
  obtain ⟨⟨o1, o2⟩, o3, o4⟩ := hto
  have hsl : tr_sl M tb ((M tb 3).toNat - 1) < 17 := by unfold tr_sl; omega
  obtain ⟨sb, esb⟩ : ∃ s, s = tb + 3 + 4 * tr_sl M tb ((M tb 3).toNat - 1) := ⟨_, rfl⟩
  have hsb := tr_nv htb hsl
  rw [← esb] at hsb
  have hfar := nv_far hsb hnb
  refine px_Cl_m (Nat.le_of_ble_eq_true rfl) ?_
  show px_R xs L d 119 (0, [.ref tb, .ref nb, px_jk], [], (sh, M)) _
  refine rr_aload_n pf_119_0 rfl ?_
  refine rr_getI pf_119_1 po_119 pg_7_25 rfl (ts_0 hW htb) (by decide) ?_
  refine rr_if_ne 9 pf_119_4 (by decide) (rg_at hG (ts_0 hW htb) (by decide)) (fun c1 => ?_) (fun c1 => ?_)
  · refine rr_aload_n pf_119_9 rfl ?_
    refine rr_dup pf_119_10 rfl ?_
    refine rr_getI pf_119_11 po_119 pg_7_25 rfl (ts_0 hW htb) (by decide) ?_
    refine rr_iconst pf_119_14 ?_
    refine rr_isub pf_119_15 ?_
    refine rr_putI pf_119_16 po_119 pg_7_25 (Or.inl rfl) rfl (ts_0 hW htb) (by decide) (by simp only [rg, rl] at *; omega) (fun M2 eM2 => ?_)
    have hE3 : px_eo (tb :: px_nvA nb) M M2 := eo_tr eo_rf (by rw [eM2]; exact eo_up (by simp))
    have hF4 : px_Fx M2 := by rw [eM2]; exact fx_up hW hF (ts_0 hW htb) (Or.inl (by decide))
    have hG5 : px_RG sh M2 := by rw [eM2]; exact rg_up hG (ts_0 hW htb) (by decide) (by simp only [rg, rl] at *; omega)
    have t2 : M2 tb 2 = M tb 2 := by rw [eM2, ask_up, if_neg (by decide)]
    have t3 : M2 tb 3 = M tb 3 - 1 := by rw [eM2, ask_up, if_pos rfl]
    skip
    refine rr_aload_n pf_119_19 rfl ?_
    refine rr_getI pf_119_20 po_119 pg_7_21 rfl (ts_0 hW htb) (by decide) ?_
    refine rr_aload_n pf_119_23 rfl ?_
    refine rr_getI pf_119_24 po_119 pg_7_25 rfl (ts_0 hW htb) (by decide) ?_
    refine rr_iadd pf_119_27 ?_
    refine rr_bipush pf_119_28 (by decide) ?_
    refine rr_iremP pf_119_30 (by simp only [rg, rl] at *; omega) (by simp only [rg, rl] at *; omega) (by omega) (by omega) ?_
    refine rr_istore_n pf_119_31 (fun y => [.ref tb, .ref nb, .int (iI (y))]) (Nat.le_of_ble_eq_true rfl) (fun _ => rfl) (fun y6 hy6 => ?_)
    refine rr_aload_n pf_119_32 rfl ?_
    refine rr_aload_n pf_119_33 rfl ?_
    refine rr_getR pf_119_34 po_119 pg_7_13 rfl (ts_0 hW htb) (by decide) (tf_0 hF4 htb) ?_
    refine rr_iload_n pf_119_37 rfl ?_
    have hsn : (y6).toNat = tr_sl M tb ((M tb 3).toNat - 1) := by rw [hy6, t2, t3]; unfold tr_sl; omega
    have hah : M2 (tb + 1) (y6).toNat = ((sb : Nat) : Int) := by rw [hsn, tr_ah hF4 htb hsl, esb]
    refine rr_aald pf_119_38 (ts_1 hW htb) (by omega) (by omega) (by simp only [rg, rl] at *; omega) (by decide) hah ?_
    obtain ⟨M7, ⟨qM7, zM7⟩, hcM7⟩ := ct_Nave_copyFrom (xs := xs) (L := L) (d := d) (by omega) hW hF4 hG5 hnb hsb (by omega)
    refine rr_cV1 pf_119_39 po_119 pc_7_29 (ns_z hW hnb) po_94 (by decide) rfl hcM7 ?_
    have hE8 : px_eo (tb :: px_nvA nb) M M7 := eo_tr hE3 (eo_mono qM7.2.2 (by simp <;> omega))
    refine rr_aload_n pf_119_42 rfl ?_
    refine rr_getR pf_119_43 po_119 pg_7_17 rfl (ts_0 hW htb) (by decide) (tf_1 qM7.1 htb) ?_
    refine rr_iload_n pf_119_46 rfl ?_
    refine rr_iald pf_119_47 (ts_2 hW htb) (by omega) (by omega) (by simp only [rg, rl] at *; omega) ?_
    have zz : nnEq M7 M nb sb := fun j hj => (zM7 j hj).trans (nn_eq (fun i hi => by rw [eM2, ask_ne (by omega)]) j)
    refine rr_iret pf_119_48 pt_119 ⟨by rw [qM7.2.2 (tb + 2) (by simp <;> omega), eM2, ask_ne (by omega), hsn], _, rfl, ⟨qM7.1, qM7.2.1, hE8⟩, by rw [qM7.2.2 tb (by simp <;> omega), eM2], by rw [← esb]; exact zz⟩
  · exfalso; omega
theorem ct_Trail_takeLatest0 {xs : Nat → Int} {L d : Nat} {sh : List (Nat × Nat)} {M : Nat → Nat → Int} (hd : 1 ≤ d) (hW : px_W0 <+: sh) (hF : px_Fx M) (hG : px_RG sh M) {tb : Nat} (htb : px_tr tb) (hto : tr_ok M tb) (h0 : M tb 3 = 0) {nb : Nat} : px_Cl xs L d 119 [.ref tb, .ref nb] (sh, M) (some (.int (iI (-1)))) (sh, M) := by
  obtain ⟨d, rfl⟩ : ∃ e, d = e + 1 := ⟨d - 1, by omega⟩
  refine px_Cl_intro (Nat.le_of_ble_eq_true rfl) ?_
  show px_R xs L d 119 (0, [.ref tb, .ref nb, px_jk], [], (sh, M)) _
  refine rr_aload_n pf_119_0 rfl ?_
  refine rr_getI pf_119_1 po_119 pg_7_25 rfl (ts_0 hW htb) (by decide) ?_
  refine rr_if_ne 9 pf_119_4 (by decide) (rg_at hG (ts_0 hW htb) (by decide)) (fun c1 => ?_) (fun c1 => ?_)
  · exfalso; omega
  · refine rr_iconst pf_119_7 ?_
    refine rr_iret pf_119_8 pt_119 ⟨rfl, rfl⟩

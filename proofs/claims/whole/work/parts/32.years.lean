/-! years -/
def nx (s : Int) : Int := (s * 1103 + 12345) % 1000003
theorem nx_b (s : Int) : 0 ≤ nx s ∧ nx s < 1000003 := by unfold nx; omega
noncomputable def sp_lvA (lw : List sp_C) (ρ : Nat → Int) (s : Int) : Nat → Int := if nx (nx (nx s)) % 3 = 0 then sp_preW lw ρ (nx s % ρ 0) else if nx (nx (nx s)) % 3 = 1 then rup ρ 8 (nx (nx s) % 16) else ρ
noncomputable def sp_lvR (lw : List sp_C) (ρ : Nat → Int) (s : Int) : Nat → Int := sp_pasW lw (sp_lvA lw ρ s)
def sp_lvC (lw : List sp_C) (ρ : Nat → Int) (s : Int) : Int := if nx (nx (nx s)) % 3 = 0 ∧ 0 ≤ sp_preV lw ρ (nx s % ρ 0) then 1 else 0
noncomputable def sp_live (lw : List sp_C) : Nat → Int → (Nat → Int) → Int → (Nat → Int) × Int
  | 0, _, ρ, c => (ρ, c)
  | n + 1, s, ρ, c => if ρ 5 < 999 then sp_live lw n (nx (nx (nx s))) (sp_lvR lw ρ s) (c + sp_lvC lw ρ s) else (ρ, c)
theorem ok_preW {lw : List sp_C} {ρ : Nat → Int} (h : sp_ok ρ) (w : Int) : sp_ok (sp_preW lw ρ w) := by
  unfold sp_preW
  split
  · rename_i hv
    have h0 := h.1
    by_cases c : 0 ≤ w ∧ w ≤ ρ 0 - 1
    · exact ok_pre h (by omega) 16 (by omega)
    · unfold sp_preV at hv; rw [if_neg c] at hv; omega
  · exact h
theorem preW_n {lw : List sp_C} {ρ : Nat → Int} {w : Int} {j : Nat} (hj : j < 9 ∨ 57 ≤ j) : sp_preW lw ρ w j = ρ j := by
  unfold sp_preW
  split
  · exact sp_pre_n (by omega)
  · rfl
theorem pasW_n {lw : List sp_C} {ρ : Nat → Int} {j : Nat} (h1 : ρ 1 ≤ 6) (hj : (j < 63 ∨ 69 ≤ j) ∧ j ≠ 5) : sp_pasW lw ρ j = ρ j := by
  unfold sp_pasW sp_pasR
  split
  · rw [rup_n hj.2]; exact sp_pas_n (by omega)
  · rfl
theorem ok_pasW {lw : List sp_C} {ρ : Nat → Int} (h : sp_ok ρ) : sp_ok (sp_pasW lw ρ) := by
  have a := h.2.1
  have b := h.2.2.2.2.2.1
  unfold sp_pasW sp_pasR
  split
  · exact ok_hour (ok_pasS h _ (by omega)) (by omega)
  · exact h
theorem ok_lvA {lw : List sp_C} {ρ : Nat → Int} (h : sp_ok ρ) (s : Int) : sp_ok (sp_lvA lw ρ s) := by
  unfold sp_lvA
  split
  · exact ok_preW h _
  · split
    · exact ok_pul h (by omega)
    · exact h
theorem ok_lvR {lw : List sp_C} {ρ : Nat → Int} (h : sp_ok ρ) (s : Int) : sp_ok (sp_lvR lw ρ s) := ok_pasW (ok_lvA h s)
theorem lvA_n {lw : List sp_C} {ρ : Nat → Int} {s : Int} {j : Nat} (hj : j < 8 ∨ 57 ≤ j) : sp_lvA lw ρ s j = ρ j := by
  unfold sp_lvA
  split
  · exact preW_n (by omega)
  · split
    · exact rup_n (by omega)
    · rfl
theorem lvR_0 {lw : List sp_C} {ρ : Nat → Int} (h : sp_ok ρ) (s : Int) : sp_lvR lw ρ s 0 = ρ 0 := by
  have a := h.2.1
  unfold sp_lvR
  rw [pasW_n (by rw [lvA_n (by omega)]; omega) (by omega)]
  exact lvA_n (by omega)
theorem ct_Church_nextSeed {xs : Nat → Int} {L d : Nat} {sh : List (Nat × Nat)} {M : Nat → Nat → Int} (hd : 1 ≤ d) {s : Int} (hs : 0 ≤ s ∧ s ≤ 1000003) : px_Cl xs L d 168 [.int (iI (s))] (sh, M) (some (.int (iI (nx s)))) (sh, M) := by
  obtain ⟨d, rfl⟩ : ∃ e, d = e + 1 := ⟨d - 1, by omega⟩
  refine px_Cl_intro (Nat.le_of_ble_eq_true rfl) ?_
  show px_R xs L d 168 (0, [.int (iI (s))], [], (sh, M)) _
  refine rr_iload_n pf_168_0 rfl ?_
  refine rr_i2l pf_168_1 (by simp only [rg, rl] at *; omega) ?_
  refine rr_ldc2_w pf_168_2 po_168 pl_0_198 ?_
  refine rr_lmul pf_168_5 ?_
  refine rr_ldc2_w pf_168_6 po_168 pl_0_200 ?_
  refine rr_ladd pf_168_9 ?_
  refine rr_ldc2_w pf_168_10 po_168 pl_0_202 ?_
  refine rr_lremP pf_168_13 (by simp only [rg, rl] at *; omega) (by simp only [rg, rl] at *; omega) (by omega) (by omega) ?_
  refine rr_l2i pf_168_14 (by simp only [rg, rl] at *; omega) ?_
  refine rr_iret pf_168_15 pt_168 ⟨rfl, rfl⟩
theorem sp_preV_rg {lw : List sp_C} {ρ : Nat → Int} (h : sp_ok ρ) (w : Int) : rg (sp_preV lw ρ w) := by
  have h0 := h.1
  unfold sp_preV
  split
  · split
    · unfold rg; omega
    · have := sp_preA_b (lw := lw) h (w := w.toNat) (by omega) 16 (by omega)
      unfold rg; omega
  · unfold rg; omega
theorem st_Church_liveYears {xs : Nat → Int} {L d : Nat} {sh : List (Nat × Nat)} {M : Nat → Nat → Int} (hd : 7 ≤ d) (hW : px_W0 <+: sh) (hF : px_Fx M) (hG : px_RG sh M) {cb : Nat} (hcb : px_ch cb) (hρ : sp_ok (rc M cb)) {lw : List sp_C} (hlw : px_lw sh M cb lw) (h0 : 0 < rc M cb 0) {s c : Int} (hs : 0 ≤ s ∧ s ≤ 1000003) {t : Nat} (ht : t < 60) (hc : 0 ≤ c ∧ c ≤ t) {vs v6 v7 v8 : Value} {nn : Int} {Q : Option Value → px_H → Prop} (k : ∀ (M' : Nat → Nat → Int) (u6 u7 u8 : Value), px_qk sh (px_stp cb) M M' → rc M' cb = sp_lvR lw (rc M cb) s → px_R xs L d 167 (8, [.ref cb, vs, .int (iI (nn)), .int (iI (nx (nx (nx s)))), .int (iI (c + sp_lvC lw (rc M cb) s)), .int (iI (((t + 1 : Nat) : Int))), u6, u7, u8], [], (sh, M')) Q) : px_R xs L d 167 (34, [.ref cb, vs, .int (iI (nn)), .int (iI (s)), .int (iI (c)), .int (iI (((t : Nat) : Int))), v6, v7, v8], [], (sh, M)) Q := by
  have hcl := ch_far hcb hcb
  have h6 : M cb 6 = rc M cb 0 := rfl
  have b1 := nx_b s
  have b2 := nx_b (nx s)
  have b3 := nx_b (nx (nx s))
  have b0 := hρ.1
  refine rr_iload_n pf_167_34 rfl ?_
  have nb := nx_b (s)
  refine rr_cS1 pf_167_35 po_167 pc_0_188 (by decide) rfl (ct_Church_nextSeed (s := s) (by omega) (by omega)) ?_
  refine rr_istore_n pf_167_38 (fun y => [.ref cb, vs, .int (iI (nn)), .int (iI (y)), .int (iI (c)), .int (iI (((t : Nat) : Int))), v6, v7, v8]) (Nat.le_of_ble_eq_true rfl) (fun _ => rfl) (fun y1 hy1 => ?_)
  refine rr_iload_n pf_167_39 rfl ?_
  refine rr_aload_n pf_167_40 rfl ?_
  refine rr_getI pf_167_41 po_167 pg_0_37 rfl (cs_z hW hcb) (by decide) ?_
  have hmd := Int.emod_nonneg (nx s) (b := rc M cb 0) (by omega)
  have hml := Int.emod_lt_of_pos (nx s) (b := rc M cb 0) (by omega)
  refine rr_iremP pf_167_44 (by simp only [rg, rl] at *; omega) (rg_at hG (cs_z hW hcb) (by decide)) (by omega) (by omega) ?_
  refine rr_istore pf_167_45 (fun y => [.ref cb, vs, .int (iI (nn)), .int (iI (y1)), .int (iI (c)), .int (iI (((t : Nat) : Int))), .int (iI (y)), v7, v8]) (Nat.le_of_ble_eq_true rfl) (fun _ => rfl) (fun y2 hy2 => ?_)
  refine rr_iload_n pf_167_47 rfl ?_
  have nb := nx_b (y1)
  refine rr_cS1 pf_167_48 po_167 pc_0_188 (by decide) rfl (ct_Church_nextSeed (s := y1) (by omega) (by omega)) ?_
  refine rr_istore_n pf_167_51 (fun y => [.ref cb, vs, .int (iI (nn)), .int (iI (y)), .int (iI (c)), .int (iI (((t : Nat) : Int))), .int (iI (y2)), v7, v8]) (Nat.le_of_ble_eq_true rfl) (fun _ => rfl) (fun y3 hy3 => ?_)
  refine rr_iload_n pf_167_52 rfl ?_
  refine rr_bipush pf_167_53 (by decide) ?_
  refine rr_iremP pf_167_55 (by simp only [rg, rl] at *; omega) (by simp only [rg, rl] at *; omega) (by omega) (by omega) ?_
  refine rr_istore pf_167_56 (fun y => [.ref cb, vs, .int (iI (nn)), .int (iI (y3)), .int (iI (c)), .int (iI (((t : Nat) : Int))), .int (iI (y2)), .int (iI (y)), v8]) (Nat.le_of_ble_eq_true rfl) (fun _ => rfl) (fun y4 hy4 => ?_)
  refine rr_iload_n pf_167_58 rfl ?_
  have nb := nx_b (y3)
  refine rr_cS1 pf_167_59 po_167 pc_0_188 (by decide) rfl (ct_Church_nextSeed (s := y3) (by omega) (by omega)) ?_
  refine rr_istore_n pf_167_62 (fun y => [.ref cb, vs, .int (iI (nn)), .int (iI (y)), .int (iI (c)), .int (iI (((t : Nat) : Int))), .int (iI (y2)), .int (iI (y4)), v8]) (Nat.le_of_ble_eq_true rfl) (fun _ => rfl) (fun y5 hy5 => ?_)
  refine rr_iload_n pf_167_63 rfl ?_
  refine rr_iconst pf_167_64 ?_
  refine rr_iremP pf_167_65 (by simp only [rg, rl] at *; omega) (by simp only [rg, rl] at *; omega) (by omega) (by omega) ?_
  refine rr_istore pf_167_66 (fun y => [.ref cb, vs, .int (iI (nn)), .int (iI (y5)), .int (iI (c)), .int (iI (((t : Nat) : Int))), .int (iI (y2)), .int (iI (y4)), .int (iI (y))]) (Nat.le_of_ble_eq_true rfl) (fun _ => rfl) (fun y6 hy6 => ?_)
  have hw6 : y2 = nx s % rc M cb 0 := by subst_vars; rfl
  have hw7 : y4 = nx (nx s) % 16 := by subst_vars; rfl
  have hw8 : y6 = nx (nx (nx s)) % 3 := by subst_vars; rfl
  have hw3 : y5 = nx (nx (nx s)) := by subst_vars; rfl
  skip
  refine rr_iload pf_167_68 rfl ?_
  refine rr_if_ne 85 pf_167_70 (by decide) (by simp only [rg, rl] at *; omega) (fun c7 => ?_) (fun c7 => ?_)
  · refine rr_iload pf_167_85 rfl ?_
    refine rr_iconst pf_167_87 ?_
    refine rr_icmp_ne 100 pf_167_88 (by decide) (by simp only [rg, rl] at *; omega) (by simp only [rg, rl] at *; omega) (fun c8 => ?_) (fun c8 => ?_)
    · refine rr_aload_n pf_167_100 rfl ?_
      have hA : rc M cb = sp_lvA lw (rc M cb) s := by unfold sp_lvA; rw [if_neg (by omega), if_neg (by omega)]
      obtain ⟨M9, ⟨qM9, rM9⟩, hcM9⟩ := ct_Church_passHour (xs := xs) (L := L) (d := d) (by omega) hW hF hG hcb (by rw [hA]; exact ok_lvA hρ s) hlw
      rw [hA] at rM9
      refine rr_cV0 pf_167_101 po_167 pc_0_194 (cs_z hW hcb) po_105 (by decide) rfl hcM9 ?_
      have hE10 : px_eo (px_stp cb) M M9 := eo_tr eo_rf (eo_mono qM9.2.2 (by simp))
      refine rr_pop pf_167_104 rfl ?_
      refine rr_iinc pf_167_105 rfl (fun y => [.ref cb, vs, .int (iI (nn)), .int (iI (y5)), .int (iI (c)), .int (iI (y)), .int (iI (y2)), .int (iI (y4)), .int (iI (y6))]) (fun _ => rfl) (fun y11 hy11 => ?_)
      refine rr_goto 8 pf_167_108 (by decide) ?_
      obtain rfl : y11 = ((t + 1 : Nat) : Int) := by omega
      have hc4 : c = c + sp_lvC lw (rc M cb) s := by unfold sp_lvC; rw [if_neg (fun z => by have := z.1; omega)]; omega
      rw [hc4, hw3]
      exact k M9 _ _ _ ⟨qM9.1, qM9.2.1, hE10⟩ rM9
    · refine rr_aload_n pf_167_91 rfl ?_
      refine rr_getR pf_167_92 po_167 pg_0_12 rfl (cs_z hW hcb) (by decide) (cf_0_0 hF hcb) ?_
      refine rr_iload pf_167_95 rfl ?_
      refine rr_putI pf_167_97 po_167 pg_0_86 (Or.inl rfl) rfl (cs_1 hW hcb) (by decide) (by simp only [rg, rl] at *; omega) (fun M12 eM12 => ?_)
      have hE13 : px_eo (px_stp cb) M M12 := eo_tr eo_rf (by rw [eM12]; exact eo_up (by simp))
      have hF14 : px_Fx M12 := by rw [eM12]; exact fx_up hW hF (cs_1 hW hcb) (Or.inl (by decide))
      have hG15 : px_RG sh M12 := by rw [eM12]; exact rg_up hG (cs_1 hW hcb) (by decide) (by simp only [rg, rl] at *; omega)
      refine rr_aload_n pf_167_100 rfl ?_
      have hA : rc M12 cb = sp_lvA lw (rc M cb) s := by rw [eM12, rc_upPul]; unfold sp_lvA; rw [if_neg (by omega), if_pos (by omega), hw7]
      obtain ⟨M16, ⟨qM16, rM16⟩, hcM16⟩ := ct_Church_passHour (xs := xs) (L := L) (d := d) (by omega) hW hF14 hG15 hcb (by rw [hA]; exact ok_lvA hρ s) (lw_stp hcb hcb hlw hE13)
      rw [hA] at rM16
      refine rr_cV0 pf_167_101 po_167 pc_0_194 (cs_z hW hcb) po_105 (by decide) rfl hcM16 ?_
      have hE17 : px_eo (px_stp cb) M M16 := eo_tr hE13 (eo_mono qM16.2.2 (by simp))
      refine rr_pop pf_167_104 rfl ?_
      refine rr_iinc pf_167_105 rfl (fun y => [.ref cb, vs, .int (iI (nn)), .int (iI (y5)), .int (iI (c)), .int (iI (y)), .int (iI (y2)), .int (iI (y4)), .int (iI (y6))]) (fun _ => rfl) (fun y18 hy18 => ?_)
      refine rr_goto 8 pf_167_108 (by decide) ?_
      obtain rfl : y18 = ((t + 1 : Nat) : Int) := by omega
      have hc4 : c = c + sp_lvC lw (rc M cb) s := by unfold sp_lvC; rw [if_neg (fun z => by have := z.1; omega)]; omega
      rw [hc4, hw3]
      exact k M16 _ _ _ ⟨qM16.1, qM16.2.1, hE17⟩ rM16
  · refine rr_aload_n pf_167_73 rfl ?_
    refine rr_iload pf_167_74 rfl ?_
    obtain ⟨M19, ⟨qM19, rM19⟩, hcM19⟩ := ct_Church_preachWord (xs := xs) (L := L) (d := d) (by omega) hW hF hG hcb hρ hlw (v := y2) (by simp only [rg, rl] at *; omega)
    have hpv : rg (sp_preV lw (rc M cb) y2) := sp_preV_rg hρ _
    refine rr_cV1 pf_167_76 po_167 pc_0_191 (cs_z hW hcb) po_101 (by decide) rfl hcM19 ?_
    have hE20 : px_eo (px_stp cb) M M19 := eo_tr eo_rf (eo_mono qM19.2.2 (by simp))
    refine rr_if_lt 85 pf_167_79 (by decide) hpv (fun c21 => ?_) (fun c21 => ?_)
    · refine rr_iload pf_167_85 rfl ?_
      refine rr_iconst pf_167_87 ?_
      refine rr_icmp_ne 100 pf_167_88 (by decide) (by simp only [rg, rl] at *; omega) (by simp only [rg, rl] at *; omega) (fun c22 => ?_) (fun c22 => ?_)
      · refine rr_aload_n pf_167_100 rfl ?_
        have hA : rc M19 cb = sp_lvA lw (rc M cb) s := by rw [rM19]; unfold sp_lvA; rw [if_pos (by omega), hw6]
        obtain ⟨M23, ⟨qM23, rM23⟩, hcM23⟩ := ct_Church_passHour (xs := xs) (L := L) (d := d) (by omega) hW qM19.1 qM19.2.1 hcb (by rw [hA]; exact ok_lvA hρ s) (lw_stp hcb hcb hlw hE20)
        rw [hA] at rM23
        refine rr_cV0 pf_167_101 po_167 pc_0_194 (cs_z hW hcb) po_105 (by decide) rfl hcM23 ?_
        have hE24 : px_eo (px_stp cb) M M23 := eo_tr hE20 (eo_mono qM23.2.2 (by simp))
        refine rr_pop pf_167_104 rfl ?_
        refine rr_iinc pf_167_105 rfl (fun y => [.ref cb, vs, .int (iI (nn)), .int (iI (y5)), .int (iI (c)), .int (iI (y)), .int (iI (y2)), .int (iI (y4)), .int (iI (y6))]) (fun _ => rfl) (fun y25 hy25 => ?_)
        refine rr_goto 8 pf_167_108 (by decide) ?_
        obtain rfl : y25 = ((t + 1 : Nat) : Int) := by omega
        have hc4 : c = c + sp_lvC lw (rc M cb) s := by unfold sp_lvC; rw [if_neg (by rw [← hw6]; omega)]; omega
        rw [hc4, hw3]
        exact k M23 _ _ _ ⟨qM23.1, qM23.2.1, hE24⟩ rM23
      · exfalso; omega
    · refine rr_iinc pf_167_82 rfl (fun y => [.ref cb, vs, .int (iI (nn)), .int (iI (y5)), .int (iI (y)), .int (iI (((t : Nat) : Int))), .int (iI (y2)), .int (iI (y4)), .int (iI (y6))]) (fun _ => rfl) (fun y26 hy26 => ?_)
      refine rr_iload pf_167_85 rfl ?_
      refine rr_iconst pf_167_87 ?_
      refine rr_icmp_ne 100 pf_167_88 (by decide) (by simp only [rg, rl] at *; omega) (by simp only [rg, rl] at *; omega) (fun c27 => ?_) (fun c27 => ?_)
      · refine rr_aload_n pf_167_100 rfl ?_
        have hA : rc M19 cb = sp_lvA lw (rc M cb) s := by rw [rM19]; unfold sp_lvA; rw [if_pos (by omega), hw6]
        obtain ⟨M28, ⟨qM28, rM28⟩, hcM28⟩ := ct_Church_passHour (xs := xs) (L := L) (d := d) (by omega) hW qM19.1 qM19.2.1 hcb (by rw [hA]; exact ok_lvA hρ s) (lw_stp hcb hcb hlw hE20)
        rw [hA] at rM28
        refine rr_cV0 pf_167_101 po_167 pc_0_194 (cs_z hW hcb) po_105 (by decide) rfl hcM28 ?_
        have hE29 : px_eo (px_stp cb) M M28 := eo_tr hE20 (eo_mono qM28.2.2 (by simp))
        refine rr_pop pf_167_104 rfl ?_
        refine rr_iinc pf_167_105 rfl (fun y => [.ref cb, vs, .int (iI (nn)), .int (iI (y5)), .int (iI (y26)), .int (iI (y)), .int (iI (y2)), .int (iI (y4)), .int (iI (y6))]) (fun _ => rfl) (fun y30 hy30 => ?_)
        refine rr_goto 8 pf_167_108 (by decide) ?_
        obtain rfl : y30 = ((t + 1 : Nat) : Int) := by omega
        have hc4 : y26 = c + sp_lvC lw (rc M cb) s := by unfold sp_lvC; rw [if_pos (by rw [← hw6]; omega)]; omega
        rw [hc4, hw3]
        exact k M28 _ _ _ ⟨qM28.1, qM28.2.1, hE29⟩ rM28
      · exfalso; omega
theorem lp_Church_liveYears {xs : Nat → Int} {L d : Nat} {sh : List (Nat × Nat)} (hd : 7 ≤ d) (hW : px_W0 <+: sh) {cb : Nat} (hcb : px_ch cb) {lw : List sp_C} {nn : Int} (hnn : 1 ≤ nn ∧ nn ≤ 60) {vs : Value} : ∀ (m : Nat) (M : Nat → Nat → Int) (s c : Int) (t : Nat) (v6 v7 v8 : Value), ((t + m : Nat) : Int) = nn → px_Fx M → px_RG sh M → sp_ok (rc M cb) → px_lw sh M cb lw → 0 < rc M cb 0 → (0 ≤ s ∧ s ≤ 1000003) → (0 ≤ c ∧ c ≤ t) → px_R xs L d 167 (8, [.ref cb, vs, .int (iI (nn)), .int (iI (s)), .int (iI (c)), .int (iI (((t : Nat) : Int))), v6, v7, v8], [], (sh, M)) (fun r h' => r = some (.int (iI ((sp_live lw m s (rc M cb) c).2))) ∧ ∃ M', h' = (sh, M') ∧ px_qk sh (px_stp cb) M M' ∧ rc M' cb = (sp_live lw m s (rc M cb) c).1) := by
  intro m
  induction m with
  | zero =>
    intro M s c t v6 v7 v8 hm hF hG hρ hlw h0 hs hc
    refine rr_iload pf_167_8 rfl ?_
    refine rr_iload_n pf_167_10 rfl ?_
    refine rr_icmp_ge 111 pf_167_11 (by decide) (by simp only [rg, rl] at *; omega) (by simp only [rg, rl] at *; omega) (fun c1 => ?_) (fun c1 => ?_)
    · refine rr_iload pf_167_111 rfl ?_
      refine rr_iret pf_167_113 pt_167 ⟨rfl, M, rfl, ⟨hF, hG, eo_rf⟩, rfl⟩
    · exfalso; omega
  | succ m ih =>
    intro M s c t v6 v7 v8 hm hF hG hρ hlw h0 hs hc
    have h6 : M cb 6 = rc M cb 0 := rfl
    have h5 : M (cb + 1) 4 = rc M cb 5 := rfl
    have b5 := hρ.2.2.2.2.2.1
    have b0 := hρ.1
    refine rr_iload pf_167_8 rfl ?_
    refine rr_iload_n pf_167_10 rfl ?_
    refine rr_icmp_ge 111 pf_167_11 (by decide) (by simp only [rg, rl] at *; omega) (by simp only [rg, rl] at *; omega) (fun c1 => ?_) (fun c1 => ?_)
    · exfalso; omega
    · refine rr_aload_n pf_167_14 rfl ?_
      refine rr_getR pf_167_15 po_167 pg_0_12 rfl (cs_z hW hcb) (by decide) (cf_0_0 hF hcb) ?_
      refine rr_getI pf_167_18 po_167 pg_0_83 rfl (cs_1 hW hcb) (by decide) ?_
      refine rr_sipush pf_167_21 (by decide) ?_
      refine rr_icmp_ge 111 pf_167_24 (by decide) (rg_at hG (cs_1 hW hcb) (by decide)) (by simp only [rg, rl] at *; omega) (fun c2 => ?_) (fun c2 => ?_)
      · refine rr_iload pf_167_111 rfl ?_
        refine rr_iret pf_167_113 pt_167 ⟨by rw [sp_live, if_neg (by omega)], M, rfl, ⟨hF, hG, eo_rf⟩, by rw [sp_live, if_neg (by omega)]⟩
      · refine rr_aload_n pf_167_27 rfl ?_
        refine rr_getI pf_167_28 po_167 pg_0_37 rfl (cs_z hW hcb) (by decide) ?_
        refine rr_if_le 111 pf_167_31 (by decide) (rg_at hG (cs_z hW hcb) (by decide)) (fun c3 => ?_) (fun c3 => ?_)
        · exfalso; omega
        · refine st_Church_liveYears (by omega) hW hF hG hcb hρ hlw h0 hs (by omega) hc (fun M' u6 u7 u8 q e => ?_)
          have hsc : 0 ≤ sp_lvC lw (rc M cb) s ∧ sp_lvC lw (rc M cb) s ≤ 1 := by unfold sp_lvC; split <;> omega
          have b3 := nx_b (nx (nx s))
          have hz := ih M' (nx (nx (nx s))) (c + sp_lvC lw (rc M cb) s) (t + 1) u6 u7 u8 (by omega) q.1 q.2.1 (by rw [e]; exact ok_lvR hρ s) (lw_stp hcb hcb hlw q.2.2) (by rw [e, lvR_0 hρ]; exact h0) (by omega) (by omega)
          refine px_R_mono hz (fun r h2 hh => ?_)
          obtain ⟨g1, M5, g2, g3, g4⟩ := hh
          rw [e] at g1 g4
          exact ⟨by rw [g1, sp_live, if_pos (by omega)], M5, g2, qk_tr q g3, by rw [g4, sp_live, if_pos (by omega)]⟩
theorem ct_Church_liveYears {xs : Nat → Int} {L d : Nat} {sh : List (Nat × Nat)} {M : Nat → Nat → Int} (hd : 8 ≤ d) (hW : px_W0 <+: sh) (hF : px_Fx M) (hG : px_RG sh M) {cb : Nat} (hcb : px_ch cb) (hρ : sp_ok (rc M cb)) {lw : List sp_C} (hlw : px_lw sh M cb lw) (h0 : 0 < rc M cb 0) {s : Int} (hs : 0 ≤ s ∧ s ≤ 1000003) {n : Nat} (hn : 1 ≤ n ∧ n ≤ 60) : ∃ M', (px_qk sh (px_stp cb) M M' ∧ rc M' cb = (sp_live lw n s (rc M cb) 0).1) ∧ px_Cl xs L d 167 [.ref cb, .int (iI s), .int (iI ((n : Nat) : Int))] (sh, M) (some (.int (iI ((sp_live lw n s (rc M cb) 0).2)))) (sh, M') := by
  obtain ⟨d, rfl⟩ : ∃ e, d = e + 1 := ⟨d - 1, by omega⟩
  refine px_Cl_m (Nat.le_of_ble_eq_true rfl) ?_
  show px_R xs L d 167 (0, [.ref cb, .int (iI (s)), .int (iI (((n : Nat) : Int))), px_jk, px_jk, px_jk, px_jk, px_jk, px_jk], [], (sh, M)) _
  refine rr_iload_n pf_167_0 rfl ?_
  refine rr_istore_n pf_167_1 (fun y => [.ref cb, .int (iI (s)), .int (iI (((n : Nat) : Int))), .int (iI (y)), px_jk, px_jk, px_jk, px_jk, px_jk]) (Nat.le_of_ble_eq_true rfl) (fun _ => rfl) (fun y1 hy1 => ?_)
  refine rr_iconst pf_167_2 ?_
  refine rr_istore pf_167_3 (fun y => [.ref cb, .int (iI (s)), .int (iI (((n : Nat) : Int))), .int (iI (y1)), .int (iI (y)), px_jk, px_jk, px_jk, px_jk]) (Nat.le_of_ble_eq_true rfl) (fun _ => rfl) (fun y2 hy2 => ?_)
  refine rr_iconst pf_167_5 ?_
  refine rr_istore pf_167_6 (fun y => [.ref cb, .int (iI (s)), .int (iI (((n : Nat) : Int))), .int (iI (y1)), .int (iI (y2)), .int (iI (y)), px_jk, px_jk, px_jk]) (Nat.le_of_ble_eq_true rfl) (fun _ => rfl) (fun y3 hy3 => ?_)
  obtain rfl : y1 = s := hy1
  obtain rfl : y2 = 0 := hy2
  obtain rfl : y3 = ((0 : Nat) : Int) := by omega
  exact lp_Church_liveYears (by omega) hW hcb ⟨by omega, by omega⟩ n M _ 0 0 _ _ _ (by omega) hF hG hρ hlw h0 hs ⟨by omega, by omega⟩

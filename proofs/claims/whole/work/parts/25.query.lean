theorem ct_Church_lastTold {xs : Nat → Int} {L d : Nat} {sh : List (Nat × Nat)} {M : Nat → Nat → Int} (hd : 3 ≤ d) (hW : px_W0 <+: sh) (hF : px_Fx M) (hG : px_RG sh M) {cb : Nat} (hcb : px_ch cb) {kd : Int} (hkd : rg kd) {lw : List sp_C} (hlw : px_lw sh M cb lw) (hbn : px_bnd (M (cb + 10))) (h9 : 0 ≤ M cb 9) : ∃ M', px_qk sh [2] M M' ∧ px_Cl xs L d 22 [.ref cb, .int (iI kd)] (sh, M) (some (.int (iI (oI (sp_tell lw kd (M (cb + 10))))))) (sh, M') := by
  obtain ⟨d, rfl⟩ : ∃ e, d = e + 1 := ⟨d - 1, by omega⟩
  refine px_Cl_m (Nat.le_of_ble_eq_true rfl) ?_
  show px_R xs L d 22 (0, [.ref cb, .int (iI (kd)), px_jk, px_jk, px_jk], [], (sh, M)) _
  rcases hlw.1 with ⟨q1, rfl⟩ | ⟨n, t, N, C, q1, q2, q3, q4, q5⟩
  · skip
    refine rr_aload_n pf_22_0 rfl ?_
    refine rr_aload_n pf_22_1 rfl ?_
    refine rr_getI pf_22_2 po_22 pg_0_50 rfl (cs_z hW hcb) (by decide) ?_
    refine rr_cV1 pf_22_5 po_22 pc_0_136 (cs_z hW hcb) po_23 (by decide) rfl (ct_Church_isLaw (by omega) hW hF hG hcb (rg_at hG (cs_z hW hcb) (by decide)) (by omega)) ?_
    refine rr_ifb_eq 23 pf_22_8 (by decide) (fun c1 => ?_) (fun c1 => ?_)
    · refine rr_aconst_null pf_22_23 ?_
      refine rr_astore_nN pf_22_24 [.ref cb, .int (iI (kd)), .null, px_jk, px_jk] (Nat.le_of_ble_eq_true rfl) rfl ?_
      refine rr_aload_nN pf_22_25 rfl ?_
      refine rr_ifnonnullN pf_22_26 ?_
      refine rr_ldc pf_22_29 po_22 pk_0_101 ?_
      refine rr_iret pf_22_31 pt_22 ⟨rfl, _, rfl, hF, hG, eo_rf⟩
    · exfalso; omega
  · skip
    refine rr_aload_n pf_22_0 rfl ?_
    refine rr_aload_n pf_22_1 rfl ?_
    refine rr_getI pf_22_2 po_22 pg_0_50 rfl (cs_z hW hcb) (by decide) ?_
    refine rr_cV1 pf_22_5 po_22 pc_0_136 (cs_z hW hcb) po_23 (by decide) rfl (ct_Church_isLaw (by omega) hW hF hG hcb (rg_at hG (cs_z hW hcb) (by decide)) (by omega)) ?_
    refine rr_ifb_eq 23 pf_22_8 (by decide) (fun c1 => ?_) (fun c1 => ?_)
    · exfalso; omega
    · refine rr_aload_n pf_22_11 rfl ?_
      refine rr_getR pf_22_12 po_22 pg_0_30 rfl (cs_z hW hcb) (by decide) (cf_0_4 hF hcb) ?_
      refine rr_aload_n pf_22_15 rfl ?_
      refine rr_getI pf_22_16 po_22 pg_0_50 rfl (cs_z hW hcb) (by decide) ?_
      refine rr_aald pf_22_19 (cs_8 hW hcb) (by omega) (by omega) (rg_at hG (cs_z hW hcb) (by decide)) (by decide) (by rw [q1, Int.toNat_natCast]; exact q4) ?_
      refine rr_goto 24 pf_22_20 (by decide) ?_
      refine rr_astore_n pf_22_24 [.ref cb, .int (iI (kd)), .ref t, px_jk, px_jk] (Nat.le_of_ble_eq_true rfl) rfl ?_
      refine rr_aload_n pf_22_25 rfl ?_
      refine rr_ifnonnull 32 pf_22_26 (by decide) ?_
      refine rr_aload_n pf_22_32 rfl ?_
      refine rr_getI pf_22_33 po_22 pg_0_140 rfl (tx_s0 q5.1) (by decide) ?_
      refine rr_iconst pf_22_36 ?_
      refine rr_isub pf_22_37 ?_
      refine rr_istore_n pf_22_38 (fun y => [.ref cb, .int (iI (kd)), .ref t, .int (iI (y)), px_jk]) (Nat.le_of_ble_eq_true rfl) (fun _ => rfl) (fun y2 hy2 => ?_)
      have e3 : y2 = (lw.length : Int) - 1 := by rw [hy2, q5.2.1]
      rw [e3]
      have hz := lp_Church_lastTold (xs := xs) (L := L) (d := d) (by omega) hW hcb hkd q5 hbn lw.length M px_jk (Nat.le_refl _) hF hG eo_rf
      rw [List.take_length] at hz
      exact hz
theorem env_b {w hue force away row col r b g sp hour mood : Int} (h : ∀ x ∈ [w, hue, force, away, row, col, r, b, g, sp, hour, mood], -1000000000 ≤ x ∧ x ≤ 1000000000) : px_bnd (sp_env w hue force away row col r b g sp hour mood) := by
  intro j hj
  unfold sp_env
  rw [List.getD_eq_getElem?_getD, List.getElem?_eq_getElem (by simpa using hj)]
  exact h _ (List.getElem_mem _)
section SB
variable {ρ : Nat → Int}
theorem sp_hue_b (h : sp_ok ρ) {p i : Nat} (hp : p < 16) (hi : i < 3) : 0 ≤ sp_hue ρ p i ∧ sp_hue ρ p i ≤ 99 := h.2.2.2.2.2.2.2.2.2.1 (3 * p + i) (by omega)
theorem sp_away_b (h : sp_ok ρ) {p : Nat} (hp : p < 16) : 0 ≤ sp_away ρ p ∧ sp_away ρ p ≤ 6 := aw_rg ⟨by omega, by omega⟩ h.2.2.2.2.2.2.2.2.1
theorem sp_sum_b (h : sp_ok ρ) {p : Nat} (hp : p < 16) : 0 ≤ sp_sum ρ p ∧ sp_sum ρ p ≤ 297 := by
  have a := sp_hue_b h hp (i := 0) (by omega)
  have b := sp_hue_b h hp (i := 1) (by omega)
  have c := sp_hue_b h hp (i := 2) (by omega)
  unfold sp_sum
  omega
theorem sp_wh_b (h : sp_ok ρ) {w : Nat} (hw : w < 8) : 0 ≤ ρ (69 + w) ∧ ρ (69 + w) ≤ 2 := h.2.2.2.2.2.2.2.2.2.2.2.2.1 w hw
theorem sp_wf_b (h : sp_ok ρ) {w : Nat} (hw : w < 8) : 0 ≤ ρ (77 + w) ∧ ρ (77 + w) ≤ 9 := h.2.2.2.2.2.2.2.2.2.2.2.2.2.1 w hw
theorem bnd_S (h : sp_ok ρ) {w p : Nat} (hw : w < 8) (hp : p < 16) : px_bnd (sp_envS ρ w p) := by
  have a := sp_hue_b h hp (i := 0) (by omega)
  have b := sp_hue_b h hp (i := 1) (by omega)
  have c := sp_hue_b h hp (i := 2) (by omega)
  have d := sp_away_b h hp
  have e := sp_wh_b h hw
  have f := sp_wf_b h hw
  have g := h.2.2.2.2.2.1
  have i := h.2.2.2.2.2.2.2.1
  refine env_b (fun x hx => ?_)
  simp only [List.mem_cons, List.not_mem_nil, or_false] at hx
  omega
theorem bnd_B (h : sp_ok ρ) {p : Nat} (hp : p < 16) : px_bnd (sp_envB ρ p) := by
  have a := sp_hue_b h hp (i := 0) (by omega)
  have b := sp_hue_b h hp (i := 1) (by omega)
  have c := sp_hue_b h hp (i := 2) (by omega)
  have d := sp_away_b h hp
  have g := h.2.2.2.2.2.1
  have i := h.2.2.2.2.2.2.2.1
  refine env_b (fun x hx => ?_)
  simp only [List.mem_cons, List.not_mem_nil, or_false] at hx
  omega
theorem bnd_R (h : sp_ok ρ) {w : Nat} (hw : w < 8) : px_bnd (sp_envR ρ w) := by
  have e := sp_wh_b h hw
  have f := sp_wf_b h hw
  have g := h.2.2.2.2.2.1
  have i := h.2.2.2.2.2.2.2.1
  refine env_b (fun x hx => ?_)
  simp only [List.mem_cons, List.not_mem_nil, or_false] at hx
  omega
theorem bnd_D (h : sp_ok ρ) {r b g sp : Int} (hr : -1000 ≤ r ∧ r ≤ 1000) (hb : -1000 ≤ b ∧ b ≤ 1000) (hg : -1000 ≤ g ∧ g ≤ 1000) (hs : -1000 ≤ sp ∧ sp ≤ 1000) : px_bnd (sp_envD ρ r b g sp) := by
  have g := h.2.2.2.2.2.1
  have i := h.2.2.2.2.2.2.2.1
  refine env_b (fun x hx => ?_)
  simp only [List.mem_cons, List.not_mem_nil, or_false] at hx
  omega
theorem oI_b {q : Option Int} (h : ∀ y, q = some y → -1000000000 ≤ y ∧ y ≤ 1000000001) : rg (oI q) ∧ (oI q = -2000000000 ↔ q = none) := by
  cases q with
  | none => exact ⟨by unfold oI rg; simp, by unfold oI; simp⟩
  | some y =>
    have := h y rfl
    refine ⟨by unfold oI rg; simp; omega, ?_⟩
    unfold oI
    simp
    omega
end SB
theorem oI_some {q : Option Int} {e : Int} (h : ¬ q = none) : q.getD e = oI q := by
  cases q with
  | none => exact absurd rfl h
  | some y => rfl
theorem oI_none {q : Option Int} {e : Int} (h : q = none) : q.getD e = e := by rw [h]; rfl
def sp_barb (lw : List sp_C) (ρ : Nat → Int) (w : Nat) : Bool := (sp_tell lw 3 (sp_envR ρ w)).isSome
theorem sp_stain_b (lw : List sp_C) (ρ : Nat → Int) (w p : Nat) : 0 ≤ sp_stain lw ρ w p ∧ sp_stain lw ρ w p ≤ 20 := by unfold sp_stain; omega
theorem sp_from_b (lw : List sp_C) (ρ : Nat → Int) (p : Nat) : 0 ≤ sp_from lw ρ p ∧ sp_from lw ρ p ≤ 300 := by unfold sp_from; omega
theorem sum_rc {M : Nat → Nat → Int} {cb p : Nat} (hp : p < 16) : M (cb + 2) (((p : Nat) : Int) * 3).toNat + M (cb + 2) (((p : Nat) : Int) * 3 + 1).toNat + M (cb + 2) (((p : Nat) : Int) * 3 + 2).toNat = sp_sum (rc M cb) p := by
  unfold sp_sum sp_hue
  rw [rc_hue (by omega), rc_hue (by omega), rc_hue (by omega)]
  congr 1
  · congr 1
    · congr 1; omega
    · congr 1; omega
  · congr 1; omega
theorem ct_Church_stainOf {xs : Nat → Int} {L d : Nat} {sh : List (Nat × Nat)} {M : Nat → Nat → Int} (hd : 5 ≤ d) (hW : px_W0 <+: sh) (hF : px_Fx M) (hG : px_RG sh M) {cb : Nat} (hcb : px_ch cb) (hρ : sp_ok (rc M cb)) {lw : List sp_C} (hlw : px_lw sh M cb lw) {w p : Nat} (hw : w < 8) (hp : p < 16) : ∃ M', px_qk sh (px_scr cb) M M' ∧ px_Cl xs L d 27 [.ref cb, .int (iI (((w : Nat) : Int))), .int (iI (((p : Nat) : Int)))] (sh, M) (some (.int (iI (sp_stain lw (rc M cb) w p)))) (sh, M') := by
  obtain ⟨d, rfl⟩ : ∃ e, d = e + 1 := ⟨d - 1, by omega⟩
  have hcl := ch_far hcb hcb
  have hpul : 0 ≤ M (cb + 1) 3 ∧ M (cb + 1) 3 < 16 := hρ.2.2.2.2.2.2.2.2.1
  refine px_Cl_m (Nat.le_of_ble_eq_true rfl) ?_
  show px_R xs L d 27 (0, [.ref cb, .int (iI (((w : Nat) : Int))), .int (iI (((p : Nat) : Int))), px_jk, px_jk], [], (sh, M)) _
  refine rr_aload_n pf_27_0 rfl ?_
  refine rr_iload_n pf_27_1 rfl ?_
  refine rr_iload_n pf_27_2 rfl ?_
  obtain ⟨M1, ⟨qM1, vM1⟩, hcM1⟩ := ct_Church_ask_wp (xs := xs) (L := L) (d := d) (w := w) (p := p) (by omega) hW hF hG hcb hρ (by omega) (by omega)
  refine rr_cV2 pf_27_3 po_27 pc_0_93 (cs_z hW hcb) po_19 (by decide) rfl hcM1 ?_
  have hE2 : px_eo (px_scr cb) M M1 := eo_tr eo_rf qM1.2.2
  refine rr_aload_n pf_27_6 rfl ?_
  refine rr_iconst pf_27_7 ?_
  have hbv : px_bnd (M1 (cb + 10)) := fun j hj => by rw [vM1 j hj]; exact (bnd_S hρ (by omega) (by omega)) j hj
  obtain ⟨M3, qM3, hcM3⟩ := ct_Church_lastTold (xs := xs) (L := L) (d := d) (by omega) hW qM1.1 qM1.2.1 hcb (kd := 0) (by simp only [rg, rl] at *; omega) (lw_scr hcb hcb hlw hE2) hbv (by rw [hE2 cb (by simp <;> omega)]; exact hρ.2.2.2.1.1)
  rw [sp_tell_congr hlw.2 vM1] at hcM3
  have hoI := oI_b (q := sp_tell lw 0 (sp_envS (rc M cb) w p)) (fun y hy => tell_b hlw (bnd_S hρ (by omega) (by omega)) hy)
  refine rr_cV1 pf_27_8 po_27 pc_0_97 (cs_z hW hcb) po_22 (by decide) rfl hcM3 ?_
  have hE4 : px_eo (px_scr cb) M M3 := eo_tr hE2 (eo_mono qM3.2.2 (by simp))
  refine rr_istore_n pf_27_11 (fun y => [.ref cb, .int (iI (((w : Nat) : Int))), .int (iI (((p : Nat) : Int))), .int (iI (y)), px_jk]) (Nat.le_of_ble_eq_true rfl) (fun _ => rfl) (fun y5 hy5 => ?_)
  refine rr_iload_n pf_27_12 rfl ?_
  refine rr_ldc pf_27_13 po_27 pk_0_101 ?_
  refine rr_icmp_ne 33 pf_27_15 (by decide) (by simp only [rg, rl] at *; omega) (by simp only [rg, rl] at *; omega) (fun c6 => ?_) (fun c6 => ?_)
  · refine rr_iload_n pf_27_33 rfl ?_
    refine rr_istore pf_27_34 (fun y => [.ref cb, .int (iI (((w : Nat) : Int))), .int (iI (((p : Nat) : Int))), .int (iI (y5)), .int (iI (y))]) (Nat.le_of_ble_eq_true rfl) (fun _ => rfl) (fun y7 hy7 => ?_)
    refine rr_iload pf_27_36 rfl ?_
    refine rr_iconst pf_27_38 ?_
    refine rr_bipush pf_27_39 (by decide) ?_
    refine rr_cS3 pf_27_41 po_27 pc_0_105 (by decide) rfl (ct_S_nearest (by omega) (by simp only [rg, rl] at *; omega) (by simp only [rg, rl] at *; omega) (by simp only [rg, rl] at *; omega)) ?_
    refine rr_iret pf_27_44 pt_27 ⟨by subst_vars; unfold sp_stain; rw [oI_some (fun e => by have := hoI.2.mpr e; omega)], _, rfl, qM3.1, qM3.2.1, hE4⟩
  · refine rr_aload_n pf_27_18 rfl ?_
    refine rr_getR pf_27_19 po_27 pg_0_22 rfl (cs_z hW hcb) (by decide) (cf_0_2 qM3.1 hcb) ?_
    refine rr_iload_n pf_27_22 rfl ?_
    refine rr_iald pf_27_23 (cs_6 hW hcb) (by omega) (by omega) (by simp only [rg, rl] at *; omega) ?_
    have hpu2 : 0 ≤ M3 (cb + 1) 3 ∧ M3 (cb + 1) 3 < 16 := by rw [hE4 (cb + 1) (by simp <;> omega)]; exact hpul
    have haw := aw_rg (p := (p : Int)) ⟨by omega, by omega⟩ hpu2
    have hwf : M3 (cb + 6) (((w : Nat) : Int)).toNat = rc M cb (77 + w) := by rw [hE4 (cb + 6) (by simp <;> omega), Int.toNat_natCast]; exact (rc_wf hw).symm
    have hwb := sp_wf_b hρ hw
    refine rr_aload_n pf_27_24 rfl ?_
    refine rr_iload_n pf_27_25 rfl ?_
    refine rr_cV1 pf_27_26 po_27 pc_0_102 (cs_z hW hcb) po_28 (by decide) rfl (ct_Church_awayOf (by omega) hW qM3.1 qM3.2.1 hcb (by omega) (by omega)) ?_
    refine rr_isub pf_27_29 ?_
    refine rr_goto 34 pf_27_30 (by decide) ?_
    refine rr_istore pf_27_34 (fun y => [.ref cb, .int (iI (((w : Nat) : Int))), .int (iI (((p : Nat) : Int))), .int (iI (y5)), .int (iI (y))]) (Nat.le_of_ble_eq_true rfl) (fun _ => rfl) (fun y8 hy8 => ?_)
    refine rr_iload pf_27_36 rfl ?_
    refine rr_iconst pf_27_38 ?_
    refine rr_bipush pf_27_39 (by decide) ?_
    refine rr_cS3 pf_27_41 po_27 pc_0_105 (by decide) rfl (ct_S_nearest (by omega) (by simp only [rg, rl] at *; omega) (by simp only [rg, rl] at *; omega) (by simp only [rg, rl] at *; omega)) ?_
    refine rr_iret pf_27_44 pt_27 ⟨by subst_vars; unfold sp_stain sp_away; rw [oI_none (hoI.2.mp (by omega)), hwf, hE4 (cb + 1) (by simp <;> omega)]; rfl, _, rfl, qM3.1, qM3.2.1, hE4⟩
theorem ct_Church_isBarred {xs : Nat → Int} {L d : Nat} {sh : List (Nat × Nat)} {M : Nat → Nat → Int} (hd : 5 ≤ d) (hW : px_W0 <+: sh) (hF : px_Fx M) (hG : px_RG sh M) {cb : Nat} (hcb : px_ch cb) (hρ : sp_ok (rc M cb)) {lw : List sp_C} (hlw : px_lw sh M cb lw) {w : Nat} (hw : w < 8) : ∃ M', px_qk sh (px_scr cb) M M' ∧ px_Cl xs L d 18 [.ref cb, .int (iI (((w : Nat) : Int)))] (sh, M) (some (.int (iI (bI (sp_barb lw (rc M cb) w = true))))) (sh, M') := by
  obtain ⟨d, rfl⟩ : ∃ e, d = e + 1 := ⟨d - 1, by omega⟩
  have hcl := ch_far hcb hcb
  have hpul : 0 ≤ M (cb + 1) 3 ∧ M (cb + 1) 3 < 16 := hρ.2.2.2.2.2.2.2.2.1
  refine px_Cl_m (Nat.le_of_ble_eq_true rfl) ?_
  show px_R xs L d 18 (0, [.ref cb, .int (iI (((w : Nat) : Int)))], [], (sh, M)) _
  refine rr_aload_n pf_18_0 rfl ?_
  refine rr_iload_n pf_18_1 rfl ?_
  refine rr_iconst pf_18_2 ?_
  obtain ⟨M1, ⟨qM1, vM1⟩, hcM1⟩ := ct_Church_ask_w (xs := xs) (L := L) (d := d) (w := w) (by omega) hW hF hG hcb hρ (by omega)
  refine rr_cV2 pf_18_3 po_18 pc_0_93 (cs_z hW hcb) po_19 (by decide) rfl hcM1 ?_
  have hE2 : px_eo (px_scr cb) M M1 := eo_tr eo_rf qM1.2.2
  refine rr_aload_n pf_18_6 rfl ?_
  refine rr_iconst pf_18_7 ?_
  have hbv : px_bnd (M1 (cb + 10)) := fun j hj => by rw [vM1 j hj]; exact (bnd_R hρ (by omega)) j hj
  obtain ⟨M3, qM3, hcM3⟩ := ct_Church_lastTold (xs := xs) (L := L) (d := d) (by omega) hW qM1.1 qM1.2.1 hcb (kd := 3) (by simp only [rg, rl] at *; omega) (lw_scr hcb hcb hlw hE2) hbv (by rw [hE2 cb (by simp <;> omega)]; exact hρ.2.2.2.1.1)
  rw [sp_tell_congr hlw.2 vM1] at hcM3
  have hoI := oI_b (q := sp_tell lw 3 (sp_envR (rc M cb) w)) (fun y hy => tell_b hlw (bnd_R hρ (by omega)) hy)
  refine rr_cV1 pf_18_8 po_18 pc_0_97 (cs_z hW hcb) po_22 (by decide) rfl hcM3 ?_
  have hE4 : px_eo (px_scr cb) M M3 := eo_tr hE2 (eo_mono qM3.2.2 (by simp))
  refine rr_ldc pf_18_11 po_18 pk_0_101 ?_
  refine rr_icmp_eq 20 pf_18_13 (by decide) hoI.1 (by simp only [rg, rl] at *; omega) (fun c5 => ?_) (fun c5 => ?_)
  · refine rr_iconst pf_18_20 ?_
    refine rr_zret pf_18_21 pt_18 (by first | exact Or.inl rfl | exact Or.inr rfl | omega) ⟨by rw [bI_f (by unfold sp_barb; rw [hoI.2.mp (by omega)]; decide)], _, rfl, qM3.1, qM3.2.1, hE4⟩
  · refine rr_iconst pf_18_16 ?_
    refine rr_goto 21 pf_18_17 (by decide) ?_
    refine rr_zret pf_18_21 pt_18 (by first | exact Or.inl rfl | exact Or.inr rfl | omega) ⟨by rw [bI_t (by unfold sp_barb; rw [Option.isSome_iff_ne_none]; intro e; have := hoI.2.mpr e; omega)], _, rfl, qM3.1, qM3.2.1, hE4⟩
theorem ct_Church_blackFrom {xs : Nat → Int} {L d : Nat} {sh : List (Nat × Nat)} {M : Nat → Nat → Int} (hd : 5 ≤ d) (hW : px_W0 <+: sh) (hF : px_Fx M) (hG : px_RG sh M) {cb : Nat} (hcb : px_ch cb) (hρ : sp_ok (rc M cb)) {lw : List sp_C} (hlw : px_lw sh M cb lw) {p : Nat} (hp : p < 16) : ∃ M', px_qk sh (px_scr cb) M M' ∧ px_Cl xs L d 33 [.ref cb, .int (iI (((p : Nat) : Int)))] (sh, M) (some (.int (iI (sp_from lw (rc M cb) p)))) (sh, M') := by
  obtain ⟨d, rfl⟩ : ∃ e, d = e + 1 := ⟨d - 1, by omega⟩
  have hcl := ch_far hcb hcb
  have hpul : 0 ≤ M (cb + 1) 3 ∧ M (cb + 1) 3 < 16 := hρ.2.2.2.2.2.2.2.2.1
  refine px_Cl_m (Nat.le_of_ble_eq_true rfl) ?_
  show px_R xs L d 33 (0, [.ref cb, .int (iI (((p : Nat) : Int))), px_jk], [], (sh, M)) _
  refine rr_aload_n pf_33_0 rfl ?_
  refine rr_iconst pf_33_1 ?_
  refine rr_iload_n pf_33_2 rfl ?_
  obtain ⟨M1, ⟨qM1, vM1⟩, hcM1⟩ := ct_Church_ask_p (xs := xs) (L := L) (d := d) (p := p) (by omega) hW hF hG hcb hρ (by omega)
  refine rr_cV2 pf_33_3 po_33 pc_0_93 (cs_z hW hcb) po_19 (by decide) rfl hcM1 ?_
  have hE2 : px_eo (px_scr cb) M M1 := eo_tr eo_rf qM1.2.2
  refine rr_aload_n pf_33_6 rfl ?_
  refine rr_iconst pf_33_7 ?_
  have hbv : px_bnd (M1 (cb + 10)) := fun j hj => by rw [vM1 j hj]; exact (bnd_B hρ (by omega)) j hj
  obtain ⟨M3, qM3, hcM3⟩ := ct_Church_lastTold (xs := xs) (L := L) (d := d) (by omega) hW qM1.1 qM1.2.1 hcb (kd := 2) (by simp only [rg, rl] at *; omega) (lw_scr hcb hcb hlw hE2) hbv (by rw [hE2 cb (by simp <;> omega)]; exact hρ.2.2.2.1.1)
  rw [sp_tell_congr hlw.2 vM1] at hcM3
  have hoI := oI_b (q := sp_tell lw 2 (sp_envB (rc M cb) p)) (fun y hy => tell_b hlw (bnd_B hρ (by omega)) hy)
  refine rr_cV1 pf_33_8 po_33 pc_0_97 (cs_z hW hcb) po_22 (by decide) rfl hcM3 ?_
  have hE4 : px_eo (px_scr cb) M M3 := eo_tr hE2 (eo_mono qM3.2.2 (by simp))
  refine rr_istore_n pf_33_11 (fun y => [.ref cb, .int (iI (((p : Nat) : Int))), .int (iI (y))]) (Nat.le_of_ble_eq_true rfl) (fun _ => rfl) (fun y5 hy5 => ?_)
  refine rr_iload_n pf_33_12 rfl ?_
  refine rr_ldc pf_33_13 po_33 pk_0_101 ?_
  refine rr_icmp_ne 23 pf_33_15 (by decide) (by simp only [rg, rl] at *; omega) (by simp only [rg, rl] at *; omega) (fun c6 => ?_) (fun c6 => ?_)
  · refine rr_iload_n pf_33_23 rfl ?_
    refine rr_iconst pf_33_24 ?_
    refine rr_sipush pf_33_25 (by decide) ?_
    refine rr_cS3 pf_33_28 po_33 pc_0_105 (by decide) rfl (ct_S_nearest (by omega) (by simp only [rg, rl] at *; omega) (by simp only [rg, rl] at *; omega) (by simp only [rg, rl] at *; omega)) ?_
    refine rr_iret pf_33_31 pt_33 ⟨by subst_vars; unfold sp_from; rw [oI_some (fun e => by have := hoI.2.mpr e; omega)], _, rfl, qM3.1, qM3.2.1, hE4⟩
  · refine rr_bipush pf_33_18 (by decide) ?_
    refine rr_goto 31 pf_33_20 (by decide) ?_
    refine rr_iret pf_33_31 pt_33 ⟨by subst_vars; unfold sp_from; rw [oI_none (hoI.2.mp (by omega))]; rfl, _, rfl, qM3.1, qM3.2.1, hE4⟩
theorem ct_Church_isBlack {xs : Nat → Int} {L d : Nat} {sh : List (Nat × Nat)} {M : Nat → Nat → Int} (hd : 6 ≤ d) (hW : px_W0 <+: sh) (hF : px_Fx M) (hG : px_RG sh M) {cb : Nat} (hcb : px_ch cb) (hρ : sp_ok (rc M cb)) {lw : List sp_C} (hlw : px_lw sh M cb lw) {p : Nat} (hp : p < 16) : ∃ M', px_qk sh (px_scr cb) M M' ∧ px_Cl xs L d 34 [.ref cb, .int (iI (((p : Nat) : Int)))] (sh, M) (some (.int (iI (bI (sp_from lw (rc M cb) p ≤ sp_sum (rc M cb) p))))) (sh, M') := by
  obtain ⟨d, rfl⟩ : ∃ e, d = e + 1 := ⟨d - 1, by omega⟩
  have hcl := ch_far hcb hcb
  have hpul : 0 ≤ M (cb + 1) 3 ∧ M (cb + 1) 3 < 16 := hρ.2.2.2.2.2.2.2.2.1
  refine px_Cl_m (Nat.le_of_ble_eq_true rfl) ?_
  show px_R xs L d 34 (0, [.ref cb, .int (iI (((p : Nat) : Int)))], [], (sh, M)) _
  refine rr_aload_n pf_34_0 rfl ?_
  refine rr_getR pf_34_1 po_34 pg_0_12 rfl (cs_z hW hcb) (by decide) (cf_0_0 hF hcb) ?_
  refine rr_iload_n pf_34_4 rfl ?_
  have hsm := ct_Nave_allHuesOf (xs := xs) (L := L) (d := d) (p := ((p : Nat) : Int)) (by omega) hW hF hG (ch_nv hcb) ⟨by omega, by omega⟩
  rw [show cb + 1 + 1 = cb + 2 from rfl, sum_rc (by omega)] at hsm
  refine rr_cV1 pf_34_5 po_34 pc_0_109 (cs_1 hW hcb) po_35 (by decide) rfl hsm ?_
  refine rr_aload_n pf_34_8 rfl ?_
  refine rr_iload_n pf_34_9 rfl ?_
  obtain ⟨M1, qM1, hcM1⟩ := ct_Church_blackFrom (xs := xs) (L := L) (d := d) (p := p) (by omega) hW hF hG hcb hρ hlw (by omega)
  refine rr_cV1 pf_34_10 po_34 pc_0_112 (cs_z hW hcb) po_33 (by decide) rfl hcM1 ?_
  have hE2 : px_eo (px_scr cb) M M1 := eo_tr eo_rf qM1.2.2
  refine rr_icmp_lt 20 pf_34_13 (by decide) (by have := sp_sum_b hρ (p := p) (by omega); simp only [rg, rl] at *; omega) (by have := sp_from_b lw (rc M cb) p; simp only [rg, rl] at *; omega) (fun c3 => ?_) (fun c3 => ?_)
  · refine rr_iconst pf_34_20 ?_
    refine rr_zret pf_34_21 pt_34 (by first | exact Or.inl rfl | exact Or.inr rfl | omega) ⟨by rw [bI_f (by omega)], _, rfl, qM1.1, qM1.2.1, hE2⟩
  · refine rr_iconst pf_34_16 ?_
    refine rr_goto 21 pf_34_17 (by decide) ?_
    refine rr_zret pf_34_21 pt_34 (by first | exact Or.inl rfl | exact Or.inr rfl | omega) ⟨by rw [bI_t (by omega)], _, rfl, qM1.1, qM1.2.1, hE2⟩

/-! the reference: queries -/
theorem stE_S {M1 M2 M3 : Nat → Nat → Int} {ρ : Nat → Int} {w p : Nat} (h1 : stE M1 (sp_envD ρ (-1) (-1) (-1) (-1))) (h2 : ∀ j, M2 246 j = if j = 1 then ((w : Nat) : Int) else if j = 2 then ρ (69 + w) else if j = 3 then ρ (77 + w) else M1 246 j) (h3 : ∀ j, (j < 4 ∨ 9 < j) → M3 246 j = M2 246 j) (a4 : M3 246 4 = sp_away ρ p) (a5 : M3 246 5 = ((p : Nat) : Int) / 4) (a6 : M3 246 6 = ((p : Nat) : Int) % 4) (a7 : M3 246 7 = sp_hue ρ p 0) (a8 : M3 246 8 = sp_hue ρ p 1) (a9 : M3 246 9 = sp_hue ρ p 2) : stE M3 (sp_envS ρ w p) := by
  unfold stE sp_envS
  refine sp_env_eq (f := fun j => M3 246 (j + 1)) ?_ ?_ ?_ a4 a5 a6 a7 a8 a9 ?_ ?_ ?_
  · exact (h3 1 (by omega)).trans (h2 1)
  · exact (h3 2 (by omega)).trans (h2 2)
  · exact (h3 3 (by omega)).trans (h2 3)
  · exact (h3 10 (by omega)).trans ((h2 10).trans (h1 9 (by omega)))
  · exact (h3 11 (by omega)).trans ((h2 11).trans (h1 10 (by omega)))
  · exact (h3 12 (by omega)).trans ((h2 12).trans (h1 11 (by omega)))
theorem stE_R {M1 M2 : Nat → Nat → Int} {ρ : Nat → Int} {w : Nat} (h1 : stE M1 (sp_envD ρ (-1) (-1) (-1) (-1))) (h2 : ∀ j, M2 246 j = if j = 1 then ((w : Nat) : Int) else if j = 2 then ρ (69 + w) else if j = 3 then ρ (77 + w) else M1 246 j) : stE M2 (sp_envR ρ w) := by
  unfold stE sp_envR
  refine sp_env_eq (f := fun j => M2 246 (j + 1)) (h2 1) (h2 2) (h2 3) ?_ ?_ ?_ ?_ ?_ ?_ ?_ ?_ ?_
  · exact (h2 4).trans (h1 3 (by omega))
  · exact (h2 5).trans (h1 4 (by omega))
  · exact (h2 6).trans (h1 5 (by omega))
  · exact (h2 7).trans (h1 6 (by omega))
  · exact (h2 8).trans (h1 7 (by omega))
  · exact (h2 9).trans (h1 8 (by omega))
  · exact (h2 10).trans (h1 9 (by omega))
  · exact (h2 11).trans (h1 10 (by omega))
  · exact (h2 12).trans (h1 11 (by omega))
theorem stE_B {M2 M3 : Nat → Nat → Int} {ρ : Nat → Int} {p : Nat} (h1 : stE M2 (sp_envD ρ (-1) (-1) (-1) (-1))) (h3 : ∀ j, (j < 4 ∨ 9 < j) → M3 246 j = M2 246 j) (a4 : M3 246 4 = sp_away ρ p) (a5 : M3 246 5 = ((p : Nat) : Int) / 4) (a6 : M3 246 6 = ((p : Nat) : Int) % 4) (a7 : M3 246 7 = sp_hue ρ p 0) (a8 : M3 246 8 = sp_hue ρ p 1) (a9 : M3 246 9 = sp_hue ρ p 2) : stE M3 (sp_envB ρ p) := by
  unfold stE sp_envB
  refine sp_env_eq (f := fun j => M3 246 (j + 1)) ?_ ?_ ?_ a4 a5 a6 a7 a8 a9 ?_ ?_ ?_
  · exact (h3 1 (by omega)).trans (h1 0 (by omega))
  · exact (h3 2 (by omega)).trans (h1 1 (by omega))
  · exact (h3 3 (by omega)).trans (h1 2 (by omega))
  · exact (h3 10 (by omega)).trans (h1 9 (by omega))
  · exact (h3 11 (by omega)).trans (h1 10 (by omega))
  · exact (h3 12 (by omega)).trans (h1 11 (by omega))
theorem stE_D {M1 M2 : Nat → Nat → Int} {ρ : Nat → Int} {r b g sp : Int} (h1 : stE M1 (sp_envD ρ (-1) (-1) (-1) (-1))) (h3 : ∀ j, (j < 7 ∨ 10 < j) → M2 246 j = M1 246 j) (a7 : M2 246 7 = r) (a8 : M2 246 8 = b) (a9 : M2 246 9 = g) (a10 : M2 246 10 = sp) : stE M2 (sp_envD ρ r b g sp) := by
  unfold stE sp_envD
  refine sp_env_eq (f := fun j => M2 246 (j + 1)) ?_ ?_ ?_ ?_ ?_ ?_ a7 a8 a9 a10 ?_ ?_
  · exact (h3 1 (by omega)).trans (h1 0 (by omega))
  · exact (h3 2 (by omega)).trans (h1 1 (by omega))
  · exact (h3 3 (by omega)).trans (h1 2 (by omega))
  · exact (h3 4 (by omega)).trans (h1 3 (by omega))
  · exact (h3 5 (by omega)).trans (h1 4 (by omega))
  · exact (h3 6 (by omega)).trans (h1 5 (by omega))
  · exact (h3 11 (by omega)).trans (h1 10 (by omega))
  · exact (h3 12 (by omega)).trans (h1 11 (by omega))
theorem tellR_b {M : Nat → Nat → Int} {lw : List sp_C} (h : px_lwR M lw) {kd : Int} {v : Nat → Int} (hv : px_bnd v) {wo : Int} (hwo : -1000000000 ≤ wo ∧ wo ≤ 1000000001) : -1000000000 ≤ (sp_tell lw kd v).getD wo ∧ (sp_tell lw kd v).getD wo ≤ 1000000001 := by
  cases hy : sp_tell lw kd v with
  | none => exact hwo
  | some y =>
    rcases h.1 with ⟨_, z⟩ | ⟨n, _, _, hd⟩
    · rw [z] at hy; cases hy
    · exact rl_tell_b hd hv hy
theorem ct_R_stainsOf {xs : Nat → Int} {L d : Nat} {sh : List (Nat × Nat)} {M0 : Nat → Nat → Int} (hd : 6 ≤ d) (hW : px_W0 <+: sh) (hF : px_Fx M0) (hG : px_RG sh M0)  (hρ : sp_ok (rr_ M0)) {lw : List sp_C} (hlw : px_lwR M0 lw) (hord : M0 228 20 = 0) {w p : Nat} (hw : w < 8) (hp : p < 16) : ∃ v M, (px_qk sh [228, 246, 248] M0 M ∧ (v = sp_stain lw (rr_ M0) w p) ∧ (rq M0 M)) ∧ px_Cl xs L d 194 [.ref 228, .int (iI (((w : Nat) : Int))), .int (iI (((p : Nat) : Int)))] (sh, M0) (some (.int (iI v))) (sh, M) := by
  obtain ⟨d, rfl⟩ : ∃ e, d = e + 1 := ⟨d - 1, by omega⟩
  have q0 : px_qk sh [228, 246, 248] M0 M0 := ⟨hF, hG, eo_rf⟩
  refine vc_i (Nat.le_of_ble_eq_true rfl) ?_
  show px_R xs L d 194 (0, [.ref 228, .int (iI (((w : Nat) : Int))), .int (iI (((p : Nat) : Int))), px_jk], [], (sh, M0)) (fun r h' => ∃ v M', r = some (.int (iI v)) ∧ h' = (sh, M') ∧ px_qk sh [228, 246, 248] M0 M' ∧ v = sp_stain lw (rr_ M0) w p ∧ rq M0 M')
  refine rr_aload_n pf_194_0 rfl ?_
  obtain ⟨M1, ⟨kq2, st_M1⟩, hcM1⟩ := ct_R_setNone (xs := xs) (L := L) (d := d) (by omega) hW q0.1 q0.2.1
  have q2 := qk_trm q0 kq2 (by decide)
  have rq3 := rq_q (rq_rf M0) kq2 (by decide)
  refine rr_cV0 pf_194_1 po_194 pc_9_453 (ws_228 hW) po_187 (by decide) rfl hcM1 ?_
  
  refine rr_aload_n pf_194_4 rfl ?_
  refine rr_iload_n pf_194_5 rfl ?_
  obtain ⟨M4, ⟨kq5, sw_M4⟩, hcM4⟩ := ct_R_setWord (xs := xs) (L := L) (d := d) (w := w) (by omega) hW q2.1 q2.2.1 (by omega)
  rw [rr_q q2 (by decide)] at sw_M4
  have q5 := qk_trm q2 kq5 (by decide)
  have rq6 := rq_q rq3 kq5 (by decide)
  refine rr_cV1 pf_194_6 po_194 pc_9_456 (ws_228 hW) po_188 (by decide) rfl hcM4 ?_
  
  refine rr_aload_n pf_194_9 rfl ?_
  refine rr_iload_n pf_194_10 rfl ?_
  obtain ⟨M7, ⟨kq8, sa_M7, s4_M7, s5_M7, s6_M7, s7_M7, s8_M7, s9_M7⟩, hcM7⟩ := ct_R_setPane (xs := xs) (L := L) (d := d) (p := p) (by omega) hW q5.1 q5.2.1 (by rw [rr_q q5 (by decide)]; exact hρ) (by omega)
  rw [rr_q q5 (by decide)] at s4_M7
  rw [rr_q q5 (by decide)] at s7_M7
  rw [rr_q q5 (by decide)] at s8_M7
  rw [rr_q q5 (by decide)] at s9_M7
  have q8 := qk_trm q5 kq8 (by decide)
  have rq9 := rq_q rq6 kq8 (by decide)
  refine rr_cV1 pf_194_11 po_194 pc_9_459 (ws_228 hW) po_195 (by decide) rfl hcM7 ?_
  
  refine rr_aload_n pf_194_14 rfl ?_
  refine rr_getR pf_194_15 po_194 pg_9_13 rfl (ws_228 hW) (by decide) (wr_228_3 q8.1) ?_
  refine rr_bipush pf_194_18 (by decide) ?_
  refine rr_iload_n pf_194_20 rfl ?_
  refine rr_iadd pf_194_21 ?_
  refine vr_iald (j := 77 + w) q8 pf_194_22 (ws_230 hW) (by omega) (by omega) (by decide) (fun x10 hx10 rx10 => ?_)
  rw [q8.2.2 230 (by decide)] at hx10
  rw [rr_at (M := M0) (i := 77 + w) (by omega)] at hx10
  have hwf := sp_wf_b hρ hw
  refine rr_iload_n pf_194_23 rfl ?_
  refine rr_aload_n pf_194_24 rfl ?_
  refine rr_getR pf_194_25 po_194 pg_9_13 rfl (ws_228 hW) (by decide) (wr_228_3 q8.1) ?_
  refine rr_bipush pf_194_28 (by decide) ?_
  refine vr_iald (j := 8) q8 pf_194_30 (ws_230 hW) (by omega) (by omega) (by decide) (fun x11 hx11 rx11 => ?_)
  rw [q8.2.2 230 (by decide)] at hx11
  rw [rr_at (M := M0) (i := 8) (by omega)] at hx11
  have hpul := hρ.2.2.2.2.2.2.2.2.1
  refine rr_cS2 pf_194_31 po_194 pc_9_237 (by decide) rfl (ct_R_apartOf (by omega) (by omega) (by omega)) ?_
  have haw := aw_rg (p := (p : Int)) ⟨by omega, by omega⟩ (q := rr_ M0 8) hpul
  have haw2 : aw ((p : Nat) : Int) x11 = aw p (rr_ M0 8) := by rw [hx11]
  refine rr_isub pf_194_34 ?_
  refine rr_istore_n pf_194_35 (fun y => [.ref 228, .int (iI (((w : Nat) : Int))), .int (iI (((p : Nat) : Int))), .int (iI (y))]) (Nat.le_of_ble_eq_true rfl) (fun _ => rfl) (fun y12 hy12 => ?_)
  refine rr_aload_n pf_194_36 rfl ?_
  refine rr_iconst pf_194_37 ?_
  refine rr_iload_n pf_194_38 rfl ?_
  refine rr_i2l pf_194_39 (by unfold rg; omega) ?_
  obtain ⟨r15, M13, ⟨kq14, pv_M13, pf_M13⟩, hcM13⟩ := ct_R_tells (xs := xs) (L := L) (d := d) (kd := 0) (wo := y12) (ev := sp_envS (rr_ M0) w p) (lw := lw) (by omega) hW q8.1 q8.2.1 (lwR_q q8 (by decide) hlw) (stE_S st_M1 sw_M4 sa_M7 s4_M7 s5_M7 s6_M7 s7_M7 s8_M7 s9_M7) (bnd_S hρ hw hp) ((rq9 20 (by decide)).trans hord) (by omega) (by omega)
  have q14 := qk_trm q8 kq14 (by decide)
  have rq16 := rq_tr rq9 pf_M13
  refine rr_cV2 pf_194_40 po_194 pc_9_462 (ws_228 hW) po_189 (by decide) rfl hcM13 ?_
  have htb := tellR_b hlw (bnd_S hρ hw hp) (kd := 0) (wo := y12) (by omega)
  rw [← pv_M13] at htb
  refine rr_iconst pf_194_43 ?_
  refine rr_bipush pf_194_44 (by decide) ?_
  refine rr_cS3 pf_194_46 po_194 pc_9_466 (by decide) rfl (ct_R_within (by omega) (by unfold rl; omega) (by unfold rg; omega) (by unfold rg; omega) (by omega)) ?_
  refine rr_iret pf_194_49 pt_194 ⟨_, M13, rfl, rfl, q14, (by unfold sp_stain sp_away; rw [pv_M13]; subst_vars; rfl), (rq16)⟩
theorem bar_one {lw : List sp_C} {M : Nat → Nat → Int} (hlw : px_lwR M lw) {ρ : Nat → Int} {w : Nat} (hb : px_bnd (sp_envR ρ w)) : (sp_tell lw 3 (sp_envR ρ w)).getD 0 = 1 ↔ sp_barb lw ρ w = true := by
  unfold sp_barb
  cases hy : sp_tell lw 3 (sp_envR ρ w) with
  | none => simp
  | some y =>
    rcases hlw.1 with ⟨_, z⟩ | ⟨n, _, _, hd⟩
    · rw [z] at hy; cases hy
    · unfold sp_tell at hy
      obtain ⟨x, hx, hz⟩ := List.exists_of_findSome?_eq_some hy
      rw [List.mem_reverse] at hx
      obtain ⟨i, hi, rfl⟩ := List.getElem_of_mem hx
      obtain ⟨x, hx1, hx2, _, _, ⟨a, b, _, _, _, _, hs⟩⟩ := hd.2.2 i hi
      rw [List.getElem?_eq_getElem hi] at hx1
      cases hx1
      unfold sp_hold at hz
      split at hz
      · rename_i h1
        rw [(hs _ hb).1 h1.1] at hz
        cases hz
        simp
      · cases hz
theorem ct_R_isBarred {xs : Nat → Int} {L d : Nat} {sh : List (Nat × Nat)} {M0 : Nat → Nat → Int} (hd : 6 ≤ d) (hW : px_W0 <+: sh) (hF : px_Fx M0) (hG : px_RG sh M0)  (hρ : sp_ok (rr_ M0)) {lw : List sp_C} (hlw : px_lwR M0 lw) (hord : M0 228 20 = 0) {w : Nat} (hw : w < 8) : ∃ M, (px_qk sh [228, 246, 248] M0 M ∧ (rq M0 M)) ∧ px_Cl xs L d 186 [.ref 228, .int (iI (((w : Nat) : Int)))] (sh, M0) (some (.int (iI (bI (sp_barb lw (rr_ M0) w = true))))) (sh, M) := by
  obtain ⟨d, rfl⟩ : ∃ e, d = e + 1 := ⟨d - 1, by omega⟩
  have q0 : px_qk sh [228, 246, 248] M0 M0 := ⟨hF, hG, eo_rf⟩
  refine vc_n (Nat.le_of_ble_eq_true rfl) ?_
  show px_R xs L d 186 (0, [.ref 228, .int (iI (((w : Nat) : Int)))], [], (sh, M0)) (fun r h' => r = some (.int (iI (bI (sp_barb lw (rr_ M0) w = true)))) ∧ ∃ M', h' = (sh, M') ∧ px_qk sh [228, 246, 248] M0 M' ∧ rq M0 M')
  refine rr_aload_n pf_186_0 rfl ?_
  obtain ⟨M1, ⟨kq2, st_M1⟩, hcM1⟩ := ct_R_setNone (xs := xs) (L := L) (d := d) (by omega) hW q0.1 q0.2.1
  have q2 := qk_trm q0 kq2 (by decide)
  have rq3 := rq_q (rq_rf M0) kq2 (by decide)
  refine rr_cV0 pf_186_1 po_186 pc_9_453 (ws_228 hW) po_187 (by decide) rfl hcM1 ?_
  
  refine rr_aload_n pf_186_4 rfl ?_
  refine rr_iload_n pf_186_5 rfl ?_
  obtain ⟨M4, ⟨kq5, sw_M4⟩, hcM4⟩ := ct_R_setWord (xs := xs) (L := L) (d := d) (w := w) (by omega) hW q2.1 q2.2.1 (by omega)
  rw [rr_q q2 (by decide)] at sw_M4
  have q5 := qk_trm q2 kq5 (by decide)
  have rq6 := rq_q rq3 kq5 (by decide)
  refine rr_cV1 pf_186_6 po_186 pc_9_456 (ws_228 hW) po_188 (by decide) rfl hcM4 ?_
  
  refine rr_aload_n pf_186_9 rfl ?_
  refine rr_iconst pf_186_10 ?_
  refine rr_lconst (w := 0) pf_186_11 rfl ?_
  obtain ⟨r9, M7, ⟨kq8, pv_M7, pf_M7⟩, hcM7⟩ := ct_R_tells (xs := xs) (L := L) (d := d) (kd := 3) (wo := 0) (ev := sp_envR (rr_ M0) w) (lw := lw) (by omega) hW q5.1 q5.2.1 (lwR_q q5 (by decide) hlw) (stE_R st_M1 sw_M4) (bnd_R hρ hw) ((rq6 20 (by decide)).trans hord) (by omega) (by omega)
  have q8 := qk_trm q5 kq8 (by decide)
  have rq10 := rq_tr rq6 pf_M7
  refine rr_cV2 pf_186_12 po_186 pc_9_462 (ws_228 hW) po_189 (by decide) rfl hcM7 ?_
  have hbo := bar_one hlw (bnd_R hρ hw)
  have htb := tellR_b hlw (bnd_R hρ hw) (kd := 3) (wo := 0) (by omega)
  rw [← pv_M7] at htb hbo
  refine rr_lconst (w := 1) pf_186_15 rfl ?_
  refine rr_lcmp pf_186_16 (by unfold rl; omega) (by unfold rl; omega) ?_
  refine rr_ifc_ne 24 pf_186_17 (by decide) (fun c11 => ?_) (fun c11 => ?_)
  · refine rr_iconst pf_186_24 ?_
    refine rr_zret pf_186_25 pt_186 (by first | exact Or.inl rfl | exact Or.inr rfl | omega) ⟨by rw [bI_f (by exact fun z => absurd (hbo.mpr z) (by omega))], M7, rfl, q8, (rq10)⟩
  · refine rr_iconst pf_186_20 ?_
    refine rr_goto 25 pf_186_21 (by decide) ?_
    refine rr_zret pf_186_25 pt_186 (by first | exact Or.inl rfl | exact Or.inr rfl | omega) ⟨by rw [bI_t (by exact hbo.mp (by omega))], M7, rfl, q8, (rq10)⟩
theorem ct_R_blacksOf {xs : Nat → Int} {L d : Nat} {sh : List (Nat × Nat)} {M0 : Nat → Nat → Int} (hd : 6 ≤ d) (hW : px_W0 <+: sh) (hF : px_Fx M0) (hG : px_RG sh M0)  (hρ : sp_ok (rr_ M0)) {lw : List sp_C} (hlw : px_lwR M0 lw) (hord : M0 228 20 = 0) {p : Nat} (hp : p < 16) : ∃ v M, (px_qk sh [228, 246, 248] M0 M ∧ (v = sp_from lw (rr_ M0) p) ∧ (rq M0 M)) ∧ px_Cl xs L d 200 [.ref 228, .int (iI (((p : Nat) : Int)))] (sh, M0) (some (.int (iI v))) (sh, M) := by
  obtain ⟨d, rfl⟩ : ∃ e, d = e + 1 := ⟨d - 1, by omega⟩
  have q0 : px_qk sh [228, 246, 248] M0 M0 := ⟨hF, hG, eo_rf⟩
  refine vc_i (Nat.le_of_ble_eq_true rfl) ?_
  show px_R xs L d 200 (0, [.ref 228, .int (iI (((p : Nat) : Int)))], [], (sh, M0)) (fun r h' => ∃ v M', r = some (.int (iI v)) ∧ h' = (sh, M') ∧ px_qk sh [228, 246, 248] M0 M' ∧ v = sp_from lw (rr_ M0) p ∧ rq M0 M')
  refine rr_aload_n pf_200_0 rfl ?_
  obtain ⟨M1, ⟨kq2, st_M1⟩, hcM1⟩ := ct_R_setNone (xs := xs) (L := L) (d := d) (by omega) hW q0.1 q0.2.1
  have q2 := qk_trm q0 kq2 (by decide)
  have rq3 := rq_q (rq_rf M0) kq2 (by decide)
  refine rr_cV0 pf_200_1 po_200 pc_9_453 (ws_228 hW) po_187 (by decide) rfl hcM1 ?_
  
  refine rr_aload_n pf_200_4 rfl ?_
  refine rr_iload_n pf_200_5 rfl ?_
  obtain ⟨M4, ⟨kq5, sa_M4, s4_M4, s5_M4, s6_M4, s7_M4, s8_M4, s9_M4⟩, hcM4⟩ := ct_R_setPane (xs := xs) (L := L) (d := d) (p := p) (by omega) hW q2.1 q2.2.1 (by rw [rr_q q2 (by decide)]; exact hρ) (by omega)
  rw [rr_q q2 (by decide)] at s4_M4
  rw [rr_q q2 (by decide)] at s7_M4
  rw [rr_q q2 (by decide)] at s8_M4
  rw [rr_q q2 (by decide)] at s9_M4
  have q5 := qk_trm q2 kq5 (by decide)
  have rq6 := rq_q rq3 kq5 (by decide)
  refine rr_cV1 pf_200_6 po_200 pc_9_459 (ws_228 hW) po_195 (by decide) rfl hcM4 ?_
  
  refine rr_aload_n pf_200_9 rfl ?_
  refine rr_iconst pf_200_10 ?_
  refine rr_ldc2_w pf_200_11 po_200 pl_9_470 ?_
  obtain ⟨r9, M7, ⟨kq8, pv_M7, pf_M7⟩, hcM7⟩ := ct_R_tells (xs := xs) (L := L) (d := d) (kd := 2) (wo := (60)) (ev := sp_envB (rr_ M0) p) (lw := lw) (by omega) hW q5.1 q5.2.1 (lwR_q q5 (by decide) hlw) (stE_B st_M1 sa_M4 s4_M4 s5_M4 s6_M4 s7_M4 s8_M4 s9_M4) (bnd_B hρ hp) ((rq6 20 (by decide)).trans hord) (by omega) (by omega)
  have q8 := qk_trm q5 kq8 (by decide)
  have rq10 := rq_tr rq6 pf_M7
  refine rr_cV2 pf_200_14 po_200 pc_9_462 (ws_228 hW) po_189 (by decide) rfl hcM7 ?_
  have htb := tellR_b hlw (bnd_B hρ hp) (kd := 2) (wo := 60) (by omega)
  rw [← pv_M7] at htb
  refine rr_iconst pf_200_17 ?_
  refine rr_sipush pf_200_18 (by decide) ?_
  refine rr_cS3 pf_200_21 po_200 pc_9_466 (by decide) rfl (ct_R_within (by omega) (by unfold rl; omega) (by unfold rg; omega) (by unfold rg; omega) (by omega)) ?_
  refine rr_iret pf_200_24 pt_200 ⟨_, M7, rfl, rfl, q8, (by unfold sp_from; rw [pv_M7]), (rq10)⟩
theorem ct_R_isBlack {xs : Nat → Int} {L d : Nat} {sh : List (Nat × Nat)} {M0 : Nat → Nat → Int} (hd : 7 ≤ d) (hW : px_W0 <+: sh) (hF : px_Fx M0) (hG : px_RG sh M0)  (hρ : sp_ok (rr_ M0)) {lw : List sp_C} (hlw : px_lwR M0 lw) (hord : M0 228 20 = 0) {p : Nat} (hp : p < 16) : ∃ M, (px_qk sh [228, 246, 248] M0 M ∧ (rq M0 M)) ∧ px_Cl xs L d 201 [.ref 228, .int (iI (((p : Nat) : Int)))] (sh, M0) (some (.int (iI (bI (sp_from lw (rr_ M0) p ≤ sp_sum (rr_ M0) p))))) (sh, M) := by
  obtain ⟨d, rfl⟩ : ∃ e, d = e + 1 := ⟨d - 1, by omega⟩
  have q0 : px_qk sh [228, 246, 248] M0 M0 := ⟨hF, hG, eo_rf⟩
  refine vc_n (Nat.le_of_ble_eq_true rfl) ?_
  show px_R xs L d 201 (0, [.ref 228, .int (iI (((p : Nat) : Int)))], [], (sh, M0)) (fun r h' => r = some (.int (iI (bI (sp_from lw (rr_ M0) p ≤ sp_sum (rr_ M0) p)))) ∧ ∃ M', h' = (sh, M') ∧ px_qk sh [228, 246, 248] M0 M' ∧ rq M0 M')
  refine rr_aload_n pf_201_0 rfl ?_
  refine rr_iload_n pf_201_1 rfl ?_
  have hsm1 := ct_R_sumOf1 (xs := xs) (L := L) (d := d) (p := p) (by omega) hW q0.1 q0.2.1 (by omega)
  have hsm1b := sp_sum_b hρ (p := p) (by omega)
  refine rr_cV1 pf_201_2 po_201 pc_9_472 (ws_228 hW) po_202 (by decide) rfl hsm1 ?_
  refine rr_aload_n pf_201_5 rfl ?_
  refine rr_iload_n pf_201_6 rfl ?_
  obtain ⟨r4, M2, ⟨kq3, pv_M2, pf_M2⟩, hcM2⟩ := ct_R_blacksOf (xs := xs) (L := L) (d := d) (p := p) (lw := lw) (by omega) hW q0.1 q0.2.1 hρ hlw hord (by omega)
  have q3 := qk_trm q0 kq3 (by decide)
  have rq5 := rq_tr (rq_rf M0) pf_M2
  refine rr_cV1 pf_201_7 po_201 pc_9_231 (ws_228 hW) po_200 (by decide) rfl hcM2 ?_
  have hfb := sp_from_b lw (rr_ M0) p
  have hfv := pv_M2
  refine rr_icmp_lt 17 pf_201_10 (by decide) (by unfold rg; omega) (by unfold rg; omega) (fun c6 => ?_) (fun c6 => ?_)
  · refine rr_iconst pf_201_17 ?_
    refine rr_zret pf_201_18 pt_201 (by first | exact Or.inl rfl | exact Or.inr rfl | omega) ⟨by rw [bI_f (by omega)], M2, rfl, q3, (rq5)⟩
  · refine rr_iconst pf_201_13 ?_
    refine rr_goto 18 pf_201_14 (by decide) ?_
    refine rr_zret pf_201_18 pt_201 (by first | exact Or.inl rfl | exact Or.inr rfl | omega) ⟨by rw [bI_t (by omega)], M2, rfl, q3, (rq5)⟩
theorem lp_R_blackOnes_4 {xs : Nat → Int} {L d : Nat} {sh : List (Nat × Nat)} (hd : 7 ≤ d) (hW : px_W0 <+: sh) {M0 : Nat → Nat → Int}  (hρ : sp_ok (rr_ M0)) {lw : List sp_C} (hlw : px_lwR M0 lw) (hord : M0 228 20 = 0)  {Q : Option Value → px_H → Prop} (kx : ∀ (n : Int) (p : Nat) (M : Nat → Nat → Int), px_qk sh [228, 246, 248] M0 M → (rq M0 M) → (n = sp_nblk lw (rr_ M0) 16) → px_R xs L d 290 (32, [.ref 228, .int (iI (n)), .int (iI (((p : Nat) : Int)))], [], (sh, M)) Q)  : ∀ (m : Nat) (n : Int) (p : Nat) (M : Nat → Nat → Int), 16 - p = m → px_qk sh [228, 246, 248] M0 M → (rq M0 M) → (p ≤ 16) → (n = sp_nblk lw (rr_ M0) p) → px_R xs L d 290 (4, [.ref 228, .int (iI (n)), .int (iI (((p : Nat) : Int)))], [], (sh, M)) Q := by
  intro m
  induction m using Nat.strongRecOn with
  | _ m ih =>
    intro n p M hm hq hrq hp hn
    refine rr_iload_n pf_290_4 rfl ?_
    refine rr_bipush pf_290_5 (by decide) ?_
    refine rr_icmp_ge 32 pf_290_7 (by decide) (by unfold rg; omega) (by unfold rg; omega) (fun c1 => ?_) (fun c1 => ?_)
    · exact kx n p M hq (hrq) (by rw [hn, show p = 16 by omega])
    · refine rr_iload_n pf_290_10 rfl ?_
      refine rr_aload_n pf_290_11 rfl ?_
      refine rr_iload_n pf_290_12 rfl ?_
      obtain ⟨M2, ⟨kq3, pf_M2⟩, hcM2⟩ := ct_R_isBlack (xs := xs) (L := L) (d := d) (p := p) (lw := lw) (by omega) hW hq.1 hq.2.1 (by rw [rr_q hq (by decide)]; exact hρ) (lwR_q hq (by decide) hlw) ((hrq 20 (by decide)).trans hord) (by omega)
      rw [rr_q hq (by decide)] at hcM2
      have q3 := qk_trm hq kq3 (by decide)
      have rq5 := rq_tr hrq pf_M2
      refine rr_cV1 pf_290_13 po_290 pc_9_234 (ws_228 hW) po_201 (by decide) rfl hcM2 ?_
      refine rr_ifb_eq 23 pf_290_16 (by decide) (fun c6 => ?_) (fun c6 => ?_)
      · refine rr_iconst pf_290_23 ?_
        refine rr_iadd pf_290_24 ?_
        refine rr_istore_n pf_290_25 (fun y => [.ref 228, .int (iI (y)), .int (iI (((p : Nat) : Int)))]) (Nat.le_of_ble_eq_true rfl) (fun _ => rfl) (fun y7 hy7 => ?_)
        refine rr_iinc pf_290_26 rfl (fun y => [.ref 228, .int (iI (y7)), .int (iI (y))]) (fun _ => rfl) (fun y8 hy8 => ?_)
        refine rr_goto 4 pf_290_29 (by decide) ?_
        obtain ⟨n9, hn9, rfl⟩ : ∃ zz : Nat, zz = 1 + p ∧ y8 = ((zz : Nat) : Int) := ⟨1 + p, rfl, by omega⟩
        exact ih _ (by omega) y7 n9 M2 rfl q3 (rq5) (by omega) (by rw [show n9 = p + 1 by omega, sp_nblk, if_neg (by omega)]; omega)
      · refine rr_iconst pf_290_19 ?_
        refine rr_goto 24 pf_290_20 (by decide) ?_
        refine rr_iadd pf_290_24 ?_
        refine rr_istore_n pf_290_25 (fun y => [.ref 228, .int (iI (y)), .int (iI (((p : Nat) : Int)))]) (Nat.le_of_ble_eq_true rfl) (fun _ => rfl) (fun y10 hy10 => ?_)
        refine rr_iinc pf_290_26 rfl (fun y => [.ref 228, .int (iI (y10)), .int (iI (y))]) (fun _ => rfl) (fun y11 hy11 => ?_)
        refine rr_goto 4 pf_290_29 (by decide) ?_
        obtain ⟨n12, hn12, rfl⟩ : ∃ zz : Nat, zz = 1 + p ∧ y11 = ((zz : Nat) : Int) := ⟨1 + p, rfl, by omega⟩
        exact ih _ (by omega) y10 n12 M2 rfl q3 (rq5) (by omega) (by rw [show n12 = p + 1 by omega, sp_nblk, if_pos (by omega)]; omega)
theorem ct_R_blackOnes {xs : Nat → Int} {L d : Nat} {sh : List (Nat × Nat)} {M0 : Nat → Nat → Int} (hd : 8 ≤ d) (hW : px_W0 <+: sh) (hF : px_Fx M0) (hG : px_RG sh M0)  (hρ : sp_ok (rr_ M0)) {lw : List sp_C} (hlw : px_lwR M0 lw) (hord : M0 228 20 = 0) : ∃ v M, (px_qk sh [228, 246, 248] M0 M ∧ (v = sp_nblk lw (rr_ M0) 16) ∧ (rq M0 M)) ∧ px_Cl xs L d 290 [.ref 228] (sh, M0) (some (.int (iI v))) (sh, M) := by
  obtain ⟨d, rfl⟩ : ∃ e, d = e + 1 := ⟨d - 1, by omega⟩
  have q0 : px_qk sh [228, 246, 248] M0 M0 := ⟨hF, hG, eo_rf⟩
  refine vc_i (Nat.le_of_ble_eq_true rfl) ?_
  show px_R xs L d 290 (0, [.ref 228, px_jk, px_jk], [], (sh, M0)) (fun r h' => ∃ v M', r = some (.int (iI v)) ∧ h' = (sh, M') ∧ px_qk sh [228, 246, 248] M0 M' ∧ v = sp_nblk lw (rr_ M0) 16 ∧ rq M0 M')
  refine rr_iconst pf_290_0 ?_
  refine rr_istore_n pf_290_1 (fun y => [.ref 228, .int (iI (y)), px_jk]) (Nat.le_of_ble_eq_true rfl) (fun _ => rfl) (fun y1 hy1 => ?_)
  refine rr_iconst pf_290_2 ?_
  refine rr_istore_n pf_290_3 (fun y => [.ref 228, .int (iI (y1)), .int (iI (y))]) (Nat.le_of_ble_eq_true rfl) (fun _ => rfl) (fun y2 hy2 => ?_)
  obtain ⟨n3, hn3, rfl⟩ : ∃ zz : Nat, zz = 0 ∧ y2 = ((zz : Nat) : Int) := ⟨0, rfl, by omega⟩
  refine lp_R_blackOnes_4 (xs := xs) (L := L) (d := d) (by omega) hW hρ hlw hord (fun n_4 p_5  M6 q7 xrq_M6 xn_M6 => ?_) _ y1 n3 M0 rfl q0 ((rq_rf M0)) (by omega) (by rw [show n3 = 0 by omega]; exact hy1)
  refine rr_iload_n pf_290_32 rfl ?_
  refine rr_iret pf_290_33 pt_290 ⟨_, M6, rfl, rfl, q7, (xn_M6), (xrq_M6)⟩
noncomputable def sp_litN (lw : List sp_C) (ρ : Nat → Int) (s h : Nat) : Nat → Int
  | 0 => 0
  | k + 1 => sp_litN lw ρ s h k + sp_lit1 lw ρ (sp_pane ρ s + 4 * k) h
theorem sp_litN_2 (lw : List sp_C) (ρ : Nat → Int) (s h : Nat) : sp_litN lw ρ s h 2 = sp_light lw ρ s h := by
  simp only [sp_litN, sp_light, Nat.mul_zero, Nat.mul_one, Nat.add_zero]
  omega
theorem lp_R_lightOf_5 {xs : Nat → Int} {L d : Nat} {sh : List (Nat × Nat)} (hd : 7 ≤ d) (hW : px_W0 <+: sh) {M0 : Nat → Nat → Int}  (hρ : sp_ok (rr_ M0)) {lw : List sp_C} (hlw : px_lwR M0 lw) (hord : M0 228 20 = 0) {s h : Nat} (hs : s < 8) (hh : h < 3)  {Q : Option Value → px_H → Prop} (kx : ∀ (n : Int) (k : Nat) (v5 : Value) (M : Nat → Nat → Int), px_qk sh [228, 246, 248] M0 M → (rq M0 M) → (n = sp_light lw (rr_ M0) s h) → px_R xs L d 208 (59, [.ref 228, .int (iI (((s : Nat) : Int))), .int (iI (((h : Nat) : Int))), .int (iI (n)), .int (iI (((k : Nat) : Int))), v5], [], (sh, M)) Q)  : ∀ (m : Nat) (n : Int) (k : Nat) (v5 : Value) (M : Nat → Nat → Int), 2 - k = m → px_qk sh [228, 246, 248] M0 M → (rq M0 M) → (k ≤ 2) → (n = sp_litN lw (rr_ M0) s h k) → px_R xs L d 208 (5, [.ref 228, .int (iI (((s : Nat) : Int))), .int (iI (((h : Nat) : Int))), .int (iI (n)), .int (iI (((k : Nat) : Int))), v5], [], (sh, M)) Q := by
  intro m
  induction m using Nat.strongRecOn with
  | _ m ih =>
    intro n k v5 M hm hq hrq hk hn
    refine rr_iload pf_208_5 rfl ?_
    refine rr_iconst pf_208_7 ?_
    refine rr_icmp_ge 59 pf_208_8 (by decide) (by unfold rg; omega) (by unfold rg; omega) (fun c1 => ?_) (fun c1 => ?_)
    · exact kx n k _ M hq (hrq) (by rw [hn, show k = 2 by omega, sp_litN_2])
    · refine rr_aload_n pf_208_11 rfl ?_
      refine rr_iload_n pf_208_12 rfl ?_
      have hpn2 := ct_R_paneOf (xs := xs) (L := L) (d := d) (s := s) (by omega) hW hq.1 hq.2.1 (by rw [rr_q hq (by decide)]; exact hρ) (by omega)
      rw [rr_q hq (by decide)] at hpn2
      obtain ⟨pn, hpn⟩ : ∃ x, x = sp_pane (rr_ M0) s := ⟨_, rfl⟩
      rw [← hpn] at hpn2
      have hpb : pn + 4 < 16 := hpn ▸ sp_pane_b hρ (by omega)
      refine rr_cV1 pf_208_13 po_208 pc_9_475 (ws_228 hW) po_209 (by decide) rfl hpn2 ?_
      refine rr_iconst pf_208_16 ?_
      refine rr_iload pf_208_17 rfl ?_
      refine rr_imul pf_208_19 ?_
      refine rr_iadd pf_208_20 ?_
      refine rr_istore pf_208_21 (fun y => [.ref 228, .int (iI (((s : Nat) : Int))), .int (iI (((h : Nat) : Int))), .int (iI (n)), .int (iI (((k : Nat) : Int))), .int (iI (y))]) (Nat.le_of_ble_eq_true rfl) (fun _ => rfl) (fun y3 hy3 => ?_)
      refine rr_iload_n pf_208_23 rfl ?_
      refine rr_aload_n pf_208_24 rfl ?_
      refine rr_iload pf_208_25 rfl ?_
      obtain ⟨M4, ⟨kq5, pf_M4⟩, hcM4⟩ := ct_R_isBlack (xs := xs) (L := L) (d := d) (p := 4 * k + pn) (lw := lw) (by omega) hW hq.1 hq.2.1 (by rw [rr_q hq (by decide)]; exact hρ) (lwR_q hq (by decide) hlw) ((hrq 20 (by decide)).trans hord) (by omega)
      rw [show ((4 * k + pn : Nat) : Int) = y3 by omega] at hcM4
      rw [rr_q hq (by decide)] at hcM4
      have q5 := qk_trm hq kq5 (by decide)
      have rq7 := rq_tr hrq pf_M4
      refine rr_cV1 pf_208_27 po_208 pc_9_234 (ws_228 hW) po_201 (by decide) rfl hcM4 ?_
      refine rr_ifb_eq 37 pf_208_30 (by decide) (fun c8 => ?_) (fun c8 => ?_)
      · refine rr_aload_n pf_208_37 rfl ?_
        refine rr_getR pf_208_38 po_208 pg_9_13 rfl (ws_228 hW) (by decide) (wr_228_3 q5.1) ?_
        refine rr_bipush pf_208_41 (by decide) ?_
        refine rr_iconst pf_208_43 ?_
        refine rr_iload pf_208_44 rfl ?_
        refine rr_imul pf_208_46 ?_
        refine rr_iadd pf_208_47 ?_
        refine rr_iload_n pf_208_48 rfl ?_
        refine rr_iadd pf_208_49 ?_
        refine vr_iald (j := 9 + (3 * (pn + 4 * k) + h)) q5 pf_208_50 (ws_230 hW) (by omega) (by omega) (by decide) (fun x9 hx9 rx9 => ?_)
        rw [q5.2.2 230 (by decide)] at hx9
        have hRD := hx9
        refine rr_iadd pf_208_51 ?_
        refine rr_istore_n pf_208_52 (fun y => [.ref 228, .int (iI (((s : Nat) : Int))), .int (iI (((h : Nat) : Int))), .int (iI (y)), .int (iI (((k : Nat) : Int))), .int (iI (y3))]) (Nat.le_of_ble_eq_true rfl) (fun _ => rfl) (fun y10 hy10 => ?_)
        refine rr_iinc pf_208_53 rfl (fun y => [.ref 228, .int (iI (((s : Nat) : Int))), .int (iI (((h : Nat) : Int))), .int (iI (y10)), .int (iI (y)), .int (iI (y3))]) (fun _ => rfl) (fun y11 hy11 => ?_)
        refine rr_goto 5 pf_208_56 (by decide) ?_
        obtain ⟨n12, hn12, rfl⟩ : ∃ zz : Nat, zz = 1 + k ∧ y11 = ((zz : Nat) : Int) := ⟨1 + k, rfl, by omega⟩
        exact ih _ (by omega) y10 n12 _ M4 rfl q5 (rq7) (by omega) (by
                      rw [show n12 = k + 1 by omega, sp_litN, ← hpn]; unfold sp_lit1; rw [if_neg (by rw [show pn + 4 * k = 4 * k + pn by omega]; omega)]; have hz : sp_hue (rr_ M0) (pn + 4 * k) h = x9 := by unfold sp_hue; rw [hRD, ← rr_at (by omega)]
                      omega)
      · refine rr_iconst pf_208_33 ?_
        refine rr_goto 51 pf_208_34 (by decide) ?_
        refine rr_iadd pf_208_51 ?_
        refine rr_istore_n pf_208_52 (fun y => [.ref 228, .int (iI (((s : Nat) : Int))), .int (iI (((h : Nat) : Int))), .int (iI (y)), .int (iI (((k : Nat) : Int))), .int (iI (y3))]) (Nat.le_of_ble_eq_true rfl) (fun _ => rfl) (fun y13 hy13 => ?_)
        refine rr_iinc pf_208_53 rfl (fun y => [.ref 228, .int (iI (((s : Nat) : Int))), .int (iI (((h : Nat) : Int))), .int (iI (y13)), .int (iI (y)), .int (iI (y3))]) (fun _ => rfl) (fun y14 hy14 => ?_)
        refine rr_goto 5 pf_208_56 (by decide) ?_
        obtain ⟨n15, hn15, rfl⟩ : ∃ zz : Nat, zz = 1 + k ∧ y14 = ((zz : Nat) : Int) := ⟨1 + k, rfl, by omega⟩
        exact ih _ (by omega) y13 n15 _ M4 rfl q5 (rq7) (by omega) (by rw [show n15 = k + 1 by omega, sp_litN, ← hpn]; unfold sp_lit1; rw [if_pos (by rw [show pn + 4 * k = 4 * k + pn by omega]; omega)]; omega)
theorem ct_R_lightOf {xs : Nat → Int} {L d : Nat} {sh : List (Nat × Nat)} {M0 : Nat → Nat → Int} (hd : 8 ≤ d) (hW : px_W0 <+: sh) (hF : px_Fx M0) (hG : px_RG sh M0)  (hρ : sp_ok (rr_ M0)) {lw : List sp_C} (hlw : px_lwR M0 lw) (hord : M0 228 20 = 0) {s h : Nat} (hs : s < 8) (hh : h < 3) : ∃ v M, (px_qk sh [228, 246, 248] M0 M ∧ (v = sp_light lw (rr_ M0) s h) ∧ (rq M0 M)) ∧ px_Cl xs L d 208 [.ref 228, .int (iI (((s : Nat) : Int))), .int (iI (((h : Nat) : Int)))] (sh, M0) (some (.int (iI v))) (sh, M) := by
  obtain ⟨d, rfl⟩ : ∃ e, d = e + 1 := ⟨d - 1, by omega⟩
  have q0 : px_qk sh [228, 246, 248] M0 M0 := ⟨hF, hG, eo_rf⟩
  refine vc_i (Nat.le_of_ble_eq_true rfl) ?_
  show px_R xs L d 208 (0, [.ref 228, .int (iI (((s : Nat) : Int))), .int (iI (((h : Nat) : Int))), px_jk, px_jk, px_jk], [], (sh, M0)) (fun r h' => ∃ v M', r = some (.int (iI v)) ∧ h' = (sh, M') ∧ px_qk sh [228, 246, 248] M0 M' ∧ v = sp_light lw (rr_ M0) s h ∧ rq M0 M')
  refine rr_iconst pf_208_0 ?_
  refine rr_istore_n pf_208_1 (fun y => [.ref 228, .int (iI (((s : Nat) : Int))), .int (iI (((h : Nat) : Int))), .int (iI (y)), px_jk, px_jk]) (Nat.le_of_ble_eq_true rfl) (fun _ => rfl) (fun y1 hy1 => ?_)
  refine rr_iconst pf_208_2 ?_
  refine rr_istore pf_208_3 (fun y => [.ref 228, .int (iI (((s : Nat) : Int))), .int (iI (((h : Nat) : Int))), .int (iI (y1)), .int (iI (y)), px_jk]) (Nat.le_of_ble_eq_true rfl) (fun _ => rfl) (fun y2 hy2 => ?_)
  obtain ⟨n3, hn3, rfl⟩ : ∃ zz : Nat, zz = 0 ∧ y2 = ((zz : Nat) : Int) := ⟨0, rfl, by omega⟩
  refine lp_R_lightOf_5 (xs := xs) (L := L) (d := d) (by omega) hW hρ hlw hord hs hh (fun n_4 k_5 v8 M6 q7 xrq_M6 xn_M6 => ?_) _ y1 n3 _ M0 rfl q0 ((rq_rf M0)) (by omega) (by rw [show n3 = 0 by omega]; exact hy1)
  refine rr_iload_n pf_208_59 rfl ?_
  refine rr_iret pf_208_60 pt_208 ⟨_, M6, rfl, rfl, q7, (xn_M6), (xrq_M6)⟩
theorem ct_R_doesOf {xs : Nat → Int} {L d : Nat} {sh : List (Nat × Nat)} {M0 : Nat → Nat → Int} (hd : 9 ≤ d) (hW : px_W0 <+: sh) (hF : px_Fx M0) (hG : px_RG sh M0)  (hρ : sp_ok (rr_ M0)) {lw : List sp_C} (hlw : px_lwR M0 lw) (hord : M0 228 20 = 0) {l s : Nat} (hl : l < 6) (hs : s < 8) : ∃ v M, (px_qk sh [228, 246, 248] M0 M ∧ (v = sp_does lw (rr_ M0) l s) ∧ (rq M0 M)) ∧ px_Cl xs L d 207 [.ref 228, .int (iI (((l : Nat) : Int))), .int (iI (((s : Nat) : Int)))] (sh, M0) (some (.int (iI v))) (sh, M) := by
  obtain ⟨d, rfl⟩ : ∃ e, d = e + 1 := ⟨d - 1, by omega⟩
  have q0 : px_qk sh [228, 246, 248] M0 M0 := ⟨hF, hG, eo_rf⟩
  refine vc_i (Nat.le_of_ble_eq_true rfl) ?_
  show px_R xs L d 207 (0, [.ref 228, .int (iI (((l : Nat) : Int))), .int (iI (((s : Nat) : Int))), px_jk, px_jk, px_jk], [], (sh, M0)) (fun r h' => ∃ v M', r = some (.int (iI v)) ∧ h' = (sh, M') ∧ px_qk sh [228, 246, 248] M0 M' ∧ v = sp_does lw (rr_ M0) l s ∧ rq M0 M')
  refine rr_aload_n pf_207_0 rfl ?_
  refine rr_iload_n pf_207_1 rfl ?_
  refine rr_iconst pf_207_2 ?_
  obtain ⟨r3, M1, ⟨kq2, pv_M1, pf_M1⟩, hcM1⟩ := ct_R_lightOf (xs := xs) (L := L) (d := d) (s := s) (h := 0) (lw := lw) (by omega) hW q0.1 q0.2.1 hρ hlw hord (by omega) (by omega)
  rw [show ((0 : Nat) : Int) = 0 by omega] at hcM1
  have q2 := qk_trm q0 kq2 (by decide)
  have rq4 := rq_tr (rq_rf M0) pf_M1
  refine rr_cV2 pf_207_3 po_207 pc_9_254 (ws_228 hW) po_208 (by decide) rfl hcM1 ?_
  have hl0 := pv_M1
  have hb0 := sp_light_b lw hρ hs (i := 0) (by omega)
  refine rr_istore_n pf_207_6 (fun y => [.ref 228, .int (iI (((l : Nat) : Int))), .int (iI (((s : Nat) : Int))), .int (iI (y)), px_jk, px_jk]) (Nat.le_of_ble_eq_true rfl) (fun _ => rfl) (fun y5 hy5 => ?_)
  refine rr_aload_n pf_207_7 rfl ?_
  refine rr_iload_n pf_207_8 rfl ?_
  refine rr_iconst pf_207_9 ?_
  obtain ⟨r8, M6, ⟨kq7, pv_M6, pf_M6⟩, hcM6⟩ := ct_R_lightOf (xs := xs) (L := L) (d := d) (s := s) (h := 1) (lw := lw) (by omega) hW q2.1 q2.2.1 (by rw [rr_q q2 (by decide)]; exact hρ) (lwR_q q2 (by decide) hlw) ((rq4 20 (by decide)).trans hord) (by omega) (by omega)
  rw [show ((1 : Nat) : Int) = 1 by omega] at hcM6
  have q7 := qk_trm q2 kq7 (by decide)
  rw [rr_q q2 (by decide)] at pv_M6
  have rq9 := rq_tr rq4 pf_M6
  refine rr_cV2 pf_207_10 po_207 pc_9_254 (ws_228 hW) po_208 (by decide) rfl hcM6 ?_
  have hl1 := pv_M6
  have hb1 := sp_light_b lw hρ hs (i := 1) (by omega)
  refine rr_istore pf_207_13 (fun y => [.ref 228, .int (iI (((l : Nat) : Int))), .int (iI (((s : Nat) : Int))), .int (iI (y5)), .int (iI (y)), px_jk]) (Nat.le_of_ble_eq_true rfl) (fun _ => rfl) (fun y10 hy10 => ?_)
  refine rr_aload_n pf_207_15 rfl ?_
  refine rr_iload_n pf_207_16 rfl ?_
  refine rr_iconst pf_207_17 ?_
  obtain ⟨r13, M11, ⟨kq12, pv_M11, pf_M11⟩, hcM11⟩ := ct_R_lightOf (xs := xs) (L := L) (d := d) (s := s) (h := 2) (lw := lw) (by omega) hW q7.1 q7.2.1 (by rw [rr_q q7 (by decide)]; exact hρ) (lwR_q q7 (by decide) hlw) ((rq9 20 (by decide)).trans hord) (by omega) (by omega)
  rw [show ((2 : Nat) : Int) = 2 by omega] at hcM11
  have q12 := qk_trm q7 kq12 (by decide)
  rw [rr_q q7 (by decide)] at pv_M11
  have rq14 := rq_tr rq9 pf_M11
  refine rr_cV2 pf_207_18 po_207 pc_9_254 (ws_228 hW) po_208 (by decide) rfl hcM11 ?_
  have hl2 := pv_M11
  have hb2 := sp_light_b lw hρ hs (i := 2) (by omega)
  refine rr_istore pf_207_21 (fun y => [.ref 228, .int (iI (((l : Nat) : Int))), .int (iI (((s : Nat) : Int))), .int (iI (y5)), .int (iI (y10)), .int (iI (y))]) (Nat.le_of_ble_eq_true rfl) (fun _ => rfl) (fun y15 hy15 => ?_)
  refine rr_aload_n pf_207_23 rfl ?_
  obtain ⟨M16, ⟨kq17, st_M16⟩, hcM16⟩ := ct_R_setNone (xs := xs) (L := L) (d := d) (by omega) hW q12.1 q12.2.1
  rw [rr_q q12 (by decide)] at st_M16
  have q17 := qk_trm q12 kq17 (by decide)
  have rq18 := rq_q rq14 kq17 (by decide)
  refine rr_cV0 pf_207_24 po_207 pc_9_453 (ws_228 hW) po_187 (by decide) rfl hcM16 ?_
  
  refine rr_aload_n pf_207_27 rfl ?_
  refine rr_getR pf_207_28 po_207 pg_9_107 rfl (ws_228 hW) (by decide) (wr_228_35 q17.1) ?_
  refine rr_bipush pf_207_31 (by decide) ?_
  refine rr_iload_n pf_207_33 rfl ?_
  refine rr_i2l pf_207_34 (by unfold rg; omega) ?_
  refine vr_last (j := 7) hW q17 pf_207_35 (ws_246 hW) (by omega) (by omega) (by decide) (by unfold rl; omega) (by decide) (fun M19 eM19 q20 => ?_)
  have rq21 := rq_ne rq18 eM19 (by decide)
  refine rr_aload_n pf_207_36 rfl ?_
  refine rr_getR pf_207_37 po_207 pg_9_107 rfl (ws_228 hW) (by decide) (wr_228_35 q20.1) ?_
  refine rr_bipush pf_207_40 (by decide) ?_
  refine rr_iload pf_207_42 rfl ?_
  refine rr_i2l pf_207_44 (by unfold rg; omega) ?_
  refine vr_last (j := 8) hW q20 pf_207_45 (ws_246 hW) (by omega) (by omega) (by decide) (by unfold rl; omega) (by decide) (fun M22 eM22 q23 => ?_)
  have rq24 := rq_ne rq21 eM22 (by decide)
  refine rr_aload_n pf_207_46 rfl ?_
  refine rr_getR pf_207_47 po_207 pg_9_107 rfl (ws_228 hW) (by decide) (wr_228_35 q23.1) ?_
  refine rr_bipush pf_207_50 (by decide) ?_
  refine rr_iload pf_207_52 rfl ?_
  refine rr_i2l pf_207_54 (by unfold rg; omega) ?_
  refine vr_last (j := 9) hW q23 pf_207_55 (ws_246 hW) (by omega) (by omega) (by decide) (by unfold rl; omega) (by decide) (fun M25 eM25 q26 => ?_)
  have rq27 := rq_ne rq24 eM25 (by decide)
  refine rr_aload_n pf_207_56 rfl ?_
  refine rr_getR pf_207_57 po_207 pg_9_107 rfl (ws_228 hW) (by decide) (wr_228_35 q26.1) ?_
  refine rr_bipush pf_207_60 (by decide) ?_
  refine rr_aload_n pf_207_62 rfl ?_
  refine rr_getR pf_207_63 po_207 pg_9_13 rfl (ws_228 hW) (by decide) (wr_228_3 q26.1) ?_
  refine rr_bipush pf_207_66 (by decide) ?_
  refine rr_iload_n pf_207_68 rfl ?_
  refine rr_iadd pf_207_69 ?_
  refine vr_iald (j := 63 + l) q26 pf_207_70 (ws_230 hW) (by omega) (by omega) (by decide) (fun x28 hx28 rx28 => ?_)
  rw [q26.2.2 230 (by decide)] at hx28
  rw [rr_at (M := M0) (i := 63 + l) (by omega)] at hx28
  have hlS := sp_spir_b hρ hl
  refine rr_i2l pf_207_71 rx28 ?_
  refine vr_last (j := 10) hW q26 pf_207_72 (ws_246 hW) (by omega) (by omega) (by decide) (rl_rg rx28) (by decide) (fun M29 eM29 q30 => ?_)
  have rq31 := rq_ne rq27 eM29 (by decide)
  refine rr_aload_n pf_207_73 rfl ?_
  refine rr_iconst pf_207_74 ?_
  refine rr_iload pf_207_75 rfl ?_
  refine rr_iload_n pf_207_77 rfl ?_
  refine rr_isub pf_207_78 ?_
  refine rr_bipush pf_207_79 (by decide) ?_
  refine rr_idiv pf_207_81 (by unfold rg; omega) (by unfold rg; omega) (by omega) ?_
  have htd := td10 (a := (y10 - y5)) (by omega)
  refine rr_i2l pf_207_82 (by unfold rg; omega) ?_
  obtain ⟨r34, M32, ⟨kq33, pv_M32, pf_M32⟩, hcM32⟩ := ct_R_tells (xs := xs) (L := L) (d := d) (kd := 1) (wo := (y10 - y5).tdiv 10) (ev := sp_envD (rr_ M0) (sp_light lw (rr_ M0) s 0) (sp_light lw (rr_ M0) s 1) (sp_light lw (rr_ M0) s 2) (rr_ M0 (63 + l))) (lw := lw) (by omega) hW q30.1 q30.2.1 (lwR_q q30 (by decide) hlw) (stE_D st_M16 (fun j hj => by rw [eM29, up_ne (by omega), eM25, up_ne (by omega), eM22, up_ne (by omega), eM19, up_ne (by omega)]) (by rw [eM29, up_ne (by decide), eM25, up_ne (by decide), eM22, up_ne (by decide), eM19, up_s]; omega) (by rw [eM29, up_ne (by decide), eM25, up_ne (by decide), eM22, up_s]; omega) (by rw [eM29, up_ne (by decide), eM25, up_s]; omega) (by rw [eM29, up_s]; omega)) (bnd_D hρ (by omega) (by omega) (by omega) (by omega)) ((rq31 20 (by decide)).trans hord) (by omega) (by omega)
  have q33 := qk_trm q30 kq33 (by decide)
  have rq35 := rq_tr rq31 pf_M32
  refine rr_cV2 pf_207_83 po_207 pc_9_462 (ws_228 hW) po_189 (by decide) rfl hcM32 ?_
  have htb := tellR_b hlw (bnd_D hρ (r := sp_light lw (rr_ M0) s 0) (b := sp_light lw (rr_ M0) s 1) (g := sp_light lw (rr_ M0) s 2) (sp := rr_ M0 (63 + l)) (by omega) (by omega) (by omega) (by omega)) (kd := 1) (wo := (y10 - y5).tdiv 10) (by omega)
  have hpv := pv_M32
  rw [← hpv] at htb
  refine rr_bipush pf_207_86 (by decide) ?_
  refine rr_bipush pf_207_88 (by decide) ?_
  refine rr_cS3 pf_207_90 po_207 pc_9_466 (by decide) rfl (ct_R_within (by omega) (by unfold rl; omega) (by unfold rg; omega) (by unfold rg; omega) (by omega)) ?_
  refine rr_iret pf_207_93 pt_207 ⟨_, M32, rfl, rfl, q33, (by unfold sp_does; rw [hpv, show (y10 - y5) = sp_light lw (rr_ M0) s 1 - sp_light lw (rr_ M0) s 0 by omega]), (rq35)⟩

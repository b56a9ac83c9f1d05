/-! the class on paper: later -/
theorem lat_st {lw : List sp_C} {ρ R : Nat → Int} {l i : Nat} (h : sp_ok ρ) (h5 : ρ 5 ≤ 999) (hi : i < 60) (hl : (l : Int) < ρ 1) (hR : ∀ j, j < 63 → R j = sp_lat lw ρ i j) (hR2 : R (63 + l) = sp_lat lw ρ i (63 + l)) : (∀ j, j < 63 → rup (rup R (63 + l) (sp_sp1 lw R l)) 5 (R 5 + 1) j = sp_lat lw ρ (i + 1) j) ∧ rup (rup R (63 + l) (sp_sp1 lw R l)) 5 (R 5 + 1) (63 + l) = sp_lat lw ρ (i + 1) (63 + l) := by
  obtain ⟨a, b, c⟩ := lat_ok (lw := lw) h h5 i (by omega)
  have e1 : sp_lat lw ρ i 1 = ρ 1 := c 1 (by omega)
  have h1 := h.2.1
  have hs := sp_seat_b a (l := l) (by omega)
  have h50 := a.2.2.2.2.2.1
  constructor
  · intro j hj
    simp only [sp_lat]
    unfold sp_pasR
    by_cases hj5 : j = 5
    · rw [hj5, rup_s, rup_s, hR 5 (by omega)]
    · rw [rup_n hj5, rup_n hj5, rup_n (by omega), sp_pas_n (by omega)]; exact hR j hj
  · simp only [sp_lat]
    unfold sp_pasR
    rw [rup_n (show 63 + l ≠ 5 by omega), rup_s, rup_n (show 63 + l ≠ 5 by omega)]
    unfold sp_pasS
    rw [if_pos (by omega), show 63 + l - 63 = l by omega]
    unfold sp_sp1
    rw [hR2, hR (57 + l) (by omega), sp_does_congr (r := R) (ρ := sp_lat lw ρ i) (lw := lw) (l := l) hR hR2 (by omega) h50.1]
theorem lp_Paper_spiritLater_13 {xs : Nat → Int} {L d : Nat} {sh : List (Nat × Nat)} (hd : 7 ≤ d) (hW : px_W0 <+: sh) {M0 : Nat → Nat → Int}  (hρ : sp_ok (rc M0 3)) {lw : List sp_C} (hlw : px_lw sh M0 3 lw) (hok : px_lOK sh M0 3) (h999 : rc M0 3 5 ≤ 999) {l n : Nat} (hl1 : (l : Int) < rc M0 3 1) (hn6 : n ≤ 60)  {Q : Option Value → px_H → Prop} (kx : ∀ (i : Nat) (R : Nat → Int) (M : Nat → Nat → Int), px_qk sh [2, 188, 189, 190, 191, 192, 193, 194, 195, 196, 197, 198] M0 M → (rc M 188 (63 + l) = sp_lat lw (rc M0 3) n (63 + l)) → px_R xs L d 160 (79, [.ref 175, .int (iI (((l : Nat) : Int))), .int (iI (((n : Nat) : Int))), .int (iI (((i : Nat) : Int)))], [], (sh, M)) Q)  : ∀ (mz : Nat) (i : Nat) (R : Nat → Int) (M : Nat → Nat → Int), n - i = mz → px_qk sh [2, 188, 189, 190, 191, 192, 193, 194, 195, 196, 197, 198] M0 M → (i ≤ n) → (rc M 188 = R) → (sp_ok R) → (∀ j, j < 63 → R j = sp_lat lw (rc M0 3) i j) → (R (63 + l) = sp_lat lw (rc M0 3) i (63 + l)) → (px_lw sh M 188 lw) → (R 5 = rc M0 3 5 + i) → px_R xs L d 160 (13, [.ref 175, .int (iI (((l : Nat) : Int))), .int (iI (((n : Nat) : Int))), .int (iI (((i : Nat) : Int)))], [], (sh, M)) Q := by
  intro mz
  induction mz using Nat.strongRecOn with
  | _ mz ih =>
    intro i R M hm hq hi hRe hokR h63 hl63 hlwM hR5
    have h1 := hρ.2.1
    have h5 := hρ.2.2.2.2.2.1
    refine rr_iload_n pf_160_13 rfl ?_
    refine rr_iload_n pf_160_14 rfl ?_
    refine rr_icmp_ge 79 pf_160_15 (by decide) (by unfold rg; omega) (by unfold rg; omega) (fun c1 => ?_) (fun c1 => ?_)
    · exact kx i R M hq (by rw [hRe, hl63, show n = i by omega])
    · refine rr_aload_n pf_160_18 rfl ?_
      refine rr_getR pf_160_19 po_160 pg_2_74 rfl (ws_175 hW) (by decide) (wr_175_4 hq.1) ?_
      refine rr_aload_n pf_160_22 rfl ?_
      refine rr_getR pf_160_23 po_160 pg_2_74 rfl (ws_175 hW) (by decide) (wr_175_4 hq.1) ?_
      refine rr_getR pf_160_26 po_160 pg_2_88 rfl (ws_188 hW) (by decide) (wr_188_0 hq.1) ?_
      refine rr_getR pf_160_29 po_160 pg_2_213 rfl (ws_189 hW) (by decide) (wr_189_2 hq.1) ?_
      refine rr_iload_n pf_160_32 rfl ?_
      refine vr_iald (j := l) hq pf_160_33 (ws_192 hW) (by omega) (by omega) (by decide) (fun x2 hx2 rx2 => ?_)
      rw [show M 192 l = rc M 188 (57 + l) from (rc_seat (cb := 188) (by omega)).symm, hRe] at hx2
      have hsb := sp_seat_b hokR (l := l) (by omega)
      obtain ⟨M3, ⟨kq4, psh_M3⟩, hcM3⟩ := ct_Church_shine (xs := xs) (L := L) (d := d) (cb := 188) (s := (R (57 + l)).toNat) (by omega) hW hq.1 hq.2.1 (show px_ch 188 by unfold px_ch; decide) (by rw [hRe]; exact hokR) hlwM (by omega)
      rw [show (((R (57 + l)).toNat : Nat) : Int) = x2 by omega] at hcM3
      rw [hRe] at psh_M3
      have q4 := qk_trm hq kq4 (by decide)
      refine rr_cV1 pf_160_34 po_160 pc_2_142 (ws_188 hW) po_41 (by decide) rfl hcM3 ?_
      have hRe1 : rc M3 188 = R := by rw [rc_eo kq4.2.2 (by decide)]; exact hRe
      have hlw1 := lw_eo hlwM kq4.2.2 (by decide) (by decide) (by decide)
      
      refine rr_aload_n pf_160_37 rfl ?_
      refine rr_getR pf_160_38 po_160 pg_2_74 rfl (ws_175 hW) (by decide) (wr_175_4 q4.1) ?_
      refine rr_getR pf_160_41 po_160 pg_2_88 rfl (ws_188 hW) (by decide) (wr_188_0 q4.1) ?_
      refine rr_getR pf_160_44 po_160 pg_2_216 rfl (ws_189 hW) (by decide) (wr_189_1 q4.1) ?_
      refine rr_iload_n pf_160_47 rfl ?_
      refine rr_aload_n pf_160_48 rfl ?_
      refine rr_getR pf_160_49 po_160 pg_2_74 rfl (ws_175 hW) (by decide) (wr_175_4 q4.1) ?_
      refine rr_iload_n pf_160_52 rfl ?_
      obtain ⟨M5, kq6, hcM5⟩ := ct_Church_spiritAfter (xs := xs) (L := L) (d := d) (cb := 188) (l := l) (f := fun h => sp_light lw R (R (57 + l)).toNat h) (by omega) hW q4.1 q4.2.1 (show px_ch 188 by unfold px_ch; decide) (by rw [hRe1]; exact hokR) hlw1 (by omega) psh_M3 (fun h hh => sp_light_b lw hokR (by omega) hh)
      rw [hRe1, show max 0 (min 99 (R (63 + l) + sp_doesF lw R l (fun h => sp_light lw R (R (57 + l)).toNat h))) = sp_sp1 lw R l from rfl] at hcM5
      have hs1 := sp_sp1_b (lw := lw) (ρ := R) l
      have q6 := qk_trm q4 kq6 (by decide)
      have hRe2 : rc M5 188 = R := by rw [rc_eo kq6.2.2 (by decide)]; exact hRe1
      have hlw2 := lw_eo hlw1 kq6.2.2 (by decide) (by decide) (by decide)
      refine rr_cV1 pf_160_53 po_160 pc_2_219 (ws_188 hW) po_106 (by decide) rfl hcM5 ?_
      refine vr_iast (j := l) hW q6 pf_160_56 (ws_191 hW) (by omega) (by omega) (by decide) (by unfold rg; omega) (by decide) (fun M7 eM7 q8 => ?_)
      have hRe3 : rc M7 188 = rup R (63 + l) (sp_sp1 lw R l) := by
        have z := rc_upSpir (M := M5) (cb := 188) (i := l) (by omega) (sp_sp1 lw R l)
        rw [hRe2] at z
        rw [eM7]; exact z
      have hlw3 := lw_eo hlw2 (A := [191]) (M2 := M7) (fun a ha => by rw [eM7, ask_ne (fun z => ha (by rw [z]; exact List.mem_cons_self))]) (by decide) (by decide) (by decide)
      refine rr_aload_n pf_160_57 rfl ?_
      refine rr_getR pf_160_58 po_160 pg_2_74 rfl (ws_175 hW) (by decide) (wr_175_4 q8.1) ?_
      refine rr_getR pf_160_61 po_160 pg_2_88 rfl (ws_188 hW) (by decide) (wr_188_0 q8.1) ?_
      refine rr_dup pf_160_64 rfl ?_
      refine vr_getI q8 pf_160_65 po_160 pg_2_222 rfl (ws_189 hW) (by decide) (fun x9 hx9 rx9 => ?_)
      rw [show M7 189 4 = rc M7 188 5 from rfl, hRe3, rup_n (by omega)] at hx9
      have h5r := hokR.2.2.2.2.2.1
      refine rr_iconst pf_160_68 ?_
      refine rr_iadd pf_160_69 ?_
      refine vr_putI hW q8 pf_160_70 po_160 pg_2_222 (Or.inl rfl) rfl (ws_189 hW) (by decide) (by unfold rg; omega) (by decide) (fun M10 eM10 q11 => ?_)
      have hRe4 : rc M10 188 = rup (rup R (63 + l) (sp_sp1 lw R l)) 5 (R 5 + 1) := by
        have z := rc_upHour (M := M7) (cb := 188) (R 5 + 1)
        rw [hRe3] at z
        rw [eM10, hx9]; exact z
      have hlw4 := lw_eo hlw3 (A := [189]) (M2 := M10) (fun a ha => by rw [eM10, ask_ne (fun z => ha (by rw [z]; exact List.mem_cons_self))]) (by decide) (by decide) (by decide)
      obtain ⟨hS1, hS2⟩ := lat_st hρ h999 (by omega) hl1 h63 hl63
      have hokN : sp_ok (rup (rup R (63 + l) (sp_sp1 lw R l)) 5 (R 5 + 1)) := ok_hour (ok_spir hokR (by omega) hs1) (by have := hokR.2.2.2.2.2.1; omega)
      refine rr_iinc pf_160_73 rfl (fun y => [.ref 175, .int (iI (((l : Nat) : Int))), .int (iI (((n : Nat) : Int))), .int (iI (y))]) (fun _ => rfl) (fun y12 hy12 => ?_)
      refine rr_goto 13 pf_160_76 (by decide) ?_
      obtain ⟨nz13, hnz13, rfl⟩ : ∃ zz : Nat, zz = 1 + i ∧ y12 = ((zz : Nat) : Int) := ⟨1 + i, rfl, by omega⟩
      exact ih _ (by omega) nz13 (rup (rup R (63 + l) (sp_sp1 lw R l)) 5 (R 5 + 1)) M10 rfl q11 (by omega) (hRe4) (hokN) (by rw [show nz13 = i + 1 by omega]; exact hS1) (by rw [show nz13 = i + 1 by omega]; exact hS2) (hlw4) (by rw [rup_s]; omega)
theorem ct_Paper_spiritLater {xs : Nat → Int} {L d : Nat} {sh : List (Nat × Nat)} {M0 : Nat → Nat → Int} (hd : 8 ≤ d) (hW : px_W0 <+: sh) (hF : px_Fx M0) (hG : px_RG sh M0)  (hρ : sp_ok (rc M0 3)) {lw : List sp_C} (hlw : px_lw sh M0 3 lw) (hok : px_lOK sh M0 3) (h999 : rc M0 3 5 ≤ 999) {l n : Nat} (hl1 : (l : Int) < rc M0 3 1) (hn6 : n ≤ 60) : ∃ v M, (px_qk sh [2, 188, 189, 190, 191, 192, 193, 194, 195, 196, 197, 198] M0 M ∧ (v = sp_lat lw (rc M0 3) n (63 + l))) ∧ px_Cl xs L d 160 [.ref 175, .int (iI (((l : Nat) : Int))), .int (iI (((n : Nat) : Int)))] (sh, M0) (some (.int (iI v))) (sh, M) := by
  obtain ⟨d, rfl⟩ : ∃ e, d = e + 1 := ⟨d - 1, by omega⟩
  have q0 : px_qk sh [2, 188, 189, 190, 191, 192, 193, 194, 195, 196, 197, 198] M0 M0 := ⟨hF, hG, eo_rf⟩
  have h1 := hρ.2.1
  refine vc_i (Nat.le_of_ble_eq_true rfl) ?_
  show px_R xs L d 160 (0, [.ref 175, .int (iI (((l : Nat) : Int))), .int (iI (((n : Nat) : Int))), px_jk], [], (sh, M0)) (fun r h' => ∃ v M', r = some (.int (iI v)) ∧ h' = (sh, M') ∧ px_qk sh [2, 188, 189, 190, 191, 192, 193, 194, 195, 196, 197, 198] M0 M' ∧ v = sp_lat lw (rc M0 3) n (63 + l))
  refine rr_aload_n pf_160_0 rfl ?_
  refine rr_getR pf_160_1 po_160 pg_2_74 rfl (ws_175 hW) (by decide) (wr_175_4 q0.1) ?_
  refine rr_aload_n pf_160_4 rfl ?_
  refine rr_getR pf_160_5 po_160 pg_2_65 rfl (ws_175 hW) (by decide) (wr_175_3 q0.1) ?_
  obtain ⟨M1, ⟨kq2, prM1, plM1⟩, hcM1⟩ := ct_Church_copyFrom (xs := xs) (L := L) (d := d) (cb := 188) (c2 := 3) (by omega) hW q0.1 q0.2.1 (show px_ch 188 by unfold px_ch; decide) (show px_ch 3 by unfold px_ch; decide) (by decide) hok
  have q2 := qk_trm q0 kq2 (by decide)
  refine rr_cV1 pf_160_8 po_160 pc_2_190 (ws_188 hW) po_152 (by decide) rfl hcM1 ?_
  refine rr_iconst pf_160_11 ?_
  refine rr_istore_n pf_160_12 (fun y => [.ref 175, .int (iI (((l : Nat) : Int))), .int (iI (((n : Nat) : Int))), .int (iI (y))]) (Nat.le_of_ble_eq_true rfl) (fun _ => rfl) (fun y3 hy3 => ?_)
  obtain ⟨nz4, hnz4, rfl⟩ : ∃ zz : Nat, zz = 0 ∧ y3 = ((zz : Nat) : Int) := ⟨0, rfl, by omega⟩
  refine lp_Paper_spiritLater_13 (xs := xs) (L := L) (d := d) (by omega) hW hρ hlw hok h999 hl1 hn6 (fun i_5 R_6  M7 q8 xl_M7 => ?_) _ nz4 (rc M0 3) M1 rfl q2 (by omega) (prM1) (hρ) (by intro j hj; rw [show nz4 = 0 by omega]; rfl) (by rw [show nz4 = 0 by omega]; rfl) (lw_copy hlw prM1 plM1 kq2.2.2 (by decide)) (by omega)
  refine rr_aload_n pf_160_79 rfl ?_
  refine rr_getR pf_160_80 po_160 pg_2_74 rfl (ws_175 hW) (by decide) (wr_175_4 q8.1) ?_
  refine rr_getR pf_160_83 po_160 pg_2_88 rfl (ws_188 hW) (by decide) (wr_188_0 q8.1) ?_
  refine rr_getR pf_160_86 po_160 pg_2_216 rfl (ws_189 hW) (by decide) (wr_189_1 q8.1) ?_
  refine rr_iload_n pf_160_89 rfl ?_
  refine vr_iald (j := l) q8 pf_160_90 (ws_191 hW) (by omega) (by omega) (by decide) (fun x9 hx9 rx9 => ?_)
  rw [show M7 191 l = rc M7 188 (63 + l) from (rc_spir (cb := 188) (by omega)).symm] at hx9
  refine rr_iret pf_160_91 pt_160 ⟨_, M7, rfl, rfl, q8, (by rw [← xl_M7]; exact hx9)⟩
theorem ct_S_later {xs : Nat → Int} {L d : Nat} {sh : List (Nat × Nat)} {M0 : Nat → Nat → Int} (hd : 9 ≤ d) (hW : px_W0 <+: sh) (hF : px_Fx M0) (hG : px_RG sh M0)  (hρ : sp_ok (rc M0 3)) {lw : List sp_C} (hlw : px_lw sh M0 3 lw) (hok : px_lOK sh M0 3) (h999 : rc M0 3 5 ≤ 999) {l n : Int} (hl0 : rg l) (hn0 : rg n) : ∃ v M, (px_qk sh [2, 188, 189, 190, 191, 192, 193, 194, 195, 196, 197, 198] M0 M ∧ (v = sp_ltr lw (rc M0 3) l n)) ∧ px_Cl xs L d 159 [.ref 0, .int (iI (l)), .int (iI (n))] (sh, M0) (some (.int (iI v))) (sh, M) := by
  obtain ⟨d, rfl⟩ : ∃ e, d = e + 1 := ⟨d - 1, by omega⟩
  have q0 : px_qk sh [2, 188, 189, 190, 191, 192, 193, 194, 195, 196, 197, 198] M0 M0 := ⟨hF, hG, eo_rf⟩
  have h1 := hρ.2.1
  refine vc_i (Nat.le_of_ble_eq_true rfl) ?_
  show px_R xs L d 159 (0, [.ref 0, .int (iI (l)), .int (iI (n))], [], (sh, M0)) (fun r h' => ∃ v M', r = some (.int (iI v)) ∧ h' = (sh, M') ∧ px_qk sh [2, 188, 189, 190, 191, 192, 193, 194, 195, 196, 197, 198] M0 M' ∧ v = sp_ltr lw (rc M0 3) l n)
  refine rr_aload_n pf_159_0 rfl ?_
  refine rr_getR pf_159_1 po_159 pg_8_21 rfl (ws_0 hW) (by decide) (wr_0_1 q0.1) ?_
  refine rr_iload_n pf_159_4 rfl ?_
  refine rr_cV1 pf_159_5 po_159 pc_8_164 (ws_3 hW) po_40 (by decide) rfl (ct_Church_isListenerN (xs := xs) (L := L) (d := d) (cb := 3) (v := l) (n := rc M0 3 1) (by omega) hW q0.1 q0.2.1 (show px_ch 3 by unfold px_ch; decide) hl0 rfl hρ.2.1.1) ?_
  refine rr_ifb_eq 21 pf_159_8 (by decide) (fun c1 => ?_) (fun c1 => ?_)
  · refine rr_iconst pf_159_21 ?_
    refine rr_iret pf_159_22 pt_159 ⟨_, M0, rfl, rfl, q0, (by unfold sp_ltr; rw [if_neg (by omega)])⟩
  · refine rr_iload_n pf_159_11 rfl ?_
    refine rr_iconst pf_159_12 ?_
    refine rr_bipush pf_159_13 (by decide) ?_
    refine rr_cS3 pf_159_15 po_159 pc_8_95 (by decide) rfl (ct_S_within (by omega) hn0 (by unfold rg; omega) (by unfold rg; omega)) ?_
    refine rr_ifb_ne 23 pf_159_18 (by decide) (fun c2 => ?_) (fun c2 => ?_)
    · refine rr_aload_n pf_159_23 rfl ?_
      refine rr_getR pf_159_24 po_159 pg_8_57 rfl (ws_0 hW) (by decide) (wr_0_7 q0.1) ?_
      refine rr_iload_n pf_159_27 rfl ?_
      refine rr_iload_n pf_159_28 rfl ?_
      obtain ⟨la, rfl⟩ : ∃ z : Nat, l = ((z : Nat) : Int) := ⟨l.toNat, by omega⟩
      obtain ⟨na, rfl⟩ : ∃ z : Nat, n = ((z : Nat) : Int) := ⟨n.toNat, by omega⟩
      obtain ⟨r5, M3, ⟨kq4, pv_M3⟩, hcM3⟩ := ct_Paper_spiritLater (xs := xs) (L := L) (d := d) (l := la) (n := na) (lw := lw) (by omega) hW q0.1 q0.2.1 hρ hlw hok h999 (by omega) (by omega)
      have q4 := qk_trm q0 kq4 (by decide)
      refine rr_cV2 pf_159_29 po_159 pc_8_334 (ws_175 hW) po_160 (by decide) rfl hcM3 ?_
      refine rr_iret pf_159_32 pt_159 ⟨_, M3, rfl, rfl, q4, (by unfold sp_ltr; rw [if_pos (by omega), Int.toNat_natCast, Int.toNat_natCast]; exact pv_M3)⟩
    · refine rr_iconst pf_159_21 ?_
      refine rr_iret pf_159_22 pt_159 ⟨_, M0, rfl, rfl, q0, (by unfold sp_ltr; rw [if_neg (by omega)])⟩

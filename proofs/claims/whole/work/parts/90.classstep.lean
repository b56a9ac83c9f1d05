/-! the class's trail as a list; steps -/
def nj (j : Nat) : Prop := (j = 5 ∨ 8 ≤ j) ∧ j < 69
def ctlR (M : Nat → Nat → Int) (tb : Nat) (tl : sp_T) : Prop := tr_ok M tb ∧ M tb 3 = ((tl.length : Nat) : Int) ∧ tl.length ≤ 16 ∧ ∀ k, k < tl.length → ∃ e, tl[k]? = some e ∧ M (tb + 2) (tr_sl M tb k) = e.1 ∧ ∀ j, nj j → nn M (tb + 3 + 4 * tr_sl M tb k) j = e.2 j
def ctlP (M : Nat → Nat → Int) (tb : Nat) (tl : sp_T) (ρ : Nat → Int) : Prop := ctlR M tb tl ∧ ∀ j, nj j → nn M (tb + 3 + 4 * tr_sl M tb tl.length) j = ρ j
section CTL
variable {M M2 : Nat → Nat → Int} {tb : Nat} {tl : sp_T} {ρ : Nat → Int}
theorem sl_lt (i : Nat) : tr_sl M tb i < 17 := Nat.mod_lt _ (by decide)
theorem sl_eq (e : M2 tb = M tb) (i : Nat) : tr_sl M2 tb i = tr_sl M tb i := by unfold tr_sl; rw [e]
theorem sl_ne {i k : Nat} (h : i ≠ k) (hi : i < 17) (hk : k < 17) : tr_sl M tb i ≠ tr_sl M tb k := by unfold tr_sl; omega
theorem nn_tr (e : ∀ a, tb ≤ a → a < tb + 71 → M2 a = M a) {s : Nat} (hs : s < 17) (j : Nat) : nn M2 (tb + 3 + 4 * s) j = nn M (tb + 3 + 4 * s) j := nn_eq (fun i hi => e _ (by omega) (by omega)) j
theorem ctl_eq (h : ctlR M tb tl) (e : ∀ a, tb ≤ a → a < tb + 71 → M2 a = M a) : ctlR M2 tb tl := by
  obtain ⟨h1, h2, h3, h4⟩ := h
  have e0 := e tb (by omega) (by omega)
  have e2 := e (tb + 2) (by omega) (by omega)
  refine ⟨by unfold tr_ok; rw [e0]; exact h1, by rw [e0]; exact h2, h3, fun k hk => ?_⟩
  obtain ⟨x, g1, g2, g3⟩ := h4 k hk
  refine ⟨x, g1, by rw [e2, sl_eq e0]; exact g2, fun j hj => ?_⟩
  rw [sl_eq e0, nn_tr e (sl_lt k)]
  exact g3 j hj
theorem ctP_eq (h : ctlP M tb tl ρ) (e : ∀ a, tb ≤ a → a < tb + 71 → M2 a = M a) : ctlP M2 tb tl ρ := by
  refine ⟨ctl_eq h.1 e, fun j hj => ?_⟩
  rw [sl_eq (e tb (by omega) (by omega)), nn_tr e (sl_lt _)]
  exact h.2 j hj
theorem ctl_hold {sh : List (Nat × Nat)} {nb : Nat} (h : ctlR M tb tl) (q : px_qk sh (px_nvA (tb + 3 + 4 * tr_sl M tb (M tb 3).toNat)) M M2) (hn : nnEq M2 M (tb + 3 + 4 * tr_sl M tb (M tb 3).toNat) nb) : ctlP M2 tb tl (fun j => nn M nb j) := by
  obtain ⟨h1, h2, h3, h4⟩ := h
  have hl : (M tb 3).toNat = tl.length := by omega
  rw [hl] at q hn
  have hs := sl_lt (M := M) (tb := tb) tl.length
  have k0 : ∀ a, (a < tb + 3 + 4 * tr_sl M tb tl.length ∨ tb + 3 + 4 * tr_sl M tb tl.length + 4 ≤ a) → M2 a = M a := fun a ha => q.2.2 a (fun z => by
    simp only [List.mem_cons, List.not_mem_nil, or_false] at z
    omega)
  have e0 := k0 tb (by omega)
  refine ⟨⟨by unfold tr_ok; rw [e0]; exact h1, by rw [e0]; exact h2, h3, fun k hk => ?_⟩, fun j hj => ?_⟩
  · obtain ⟨x, g1, g2, g3⟩ := h4 k hk
    refine ⟨x, g1, by rw [k0 (tb + 2) (by omega), sl_eq e0]; exact g2, fun j hj => ?_⟩
    rw [sl_eq e0, nn_eq (M := M) (fun i hi => k0 _ (by have := sl_ne (M := M) (tb := tb) (show k ≠ tl.length by omega) (by omega) (by omega); omega))]
    exact g3 j hj
  · rw [sl_eq e0]; exact hn j hj
theorem ctl_push (h : ctlP M tb tl ρ) {kd : Int} (q : ∀ a, a ≠ tb → a ≠ tb + 2 → M2 a = M a) (h2 : M2 (tb + 2) = fun j => if j = tr_sl M tb (M tb 3).toNat then kd else M (tb + 2) j) (hf : M2 tb 2 = if M tb 3 < 16 then M tb 2 else (M tb 2 + 1) % 17) (hz : M2 tb 3 = if M tb 3 < 16 then M tb 3 + 1 else M tb 3) : ctlR M2 tb (tpush tl (kd, ρ)) := by
  obtain ⟨⟨h1, hs, h3, h4⟩, h5⟩ := h
  have hl : (M tb 3).toNat = tl.length := by omega
  rw [hl] at h2
  have nq : ∀ s j, nn M2 (tb + 3 + 4 * s) j = nn M (tb + 3 + 4 * s) j := fun s j => nn_eq (fun i hi => q _ (by omega) (by omega)) j
  obtain ⟨⟨f1, f2⟩, f3, f4⟩ := h1
  by_cases c : M tb 3 < 16
  · rw [if_pos c] at hf hz
    have e : tpush tl (kd, ρ) = tl ++ [(kd, ρ)] := by unfold tpush; rw [show tl.length - 15 = 0 by omega]; rfl
    have sl : ∀ k, tr_sl M2 tb k = tr_sl M tb k := fun k => by unfold tr_sl; rw [hf]
    rw [e]
    refine ⟨⟨by rw [hf]; exact ⟨f1, f2⟩, by rw [hz]; omega⟩, by rw [hz, List.length_append, List.length_singleton]; omega, by rw [List.length_append, List.length_singleton]; omega, fun k hk => ?_⟩
    rw [List.length_append, List.length_singleton] at hk
    by_cases ck : k = tl.length
    · refine ⟨(kd, ρ), by rw [ck, List.getElem?_append_right (Nat.le_refl _)]; simp, by rw [h2, sl, ck]; exact if_pos rfl, fun j hj => ?_⟩
      rw [sl, nq, ck]; exact h5 j hj
    · obtain ⟨x, g1, g2, g3⟩ := h4 k (by omega)
      refine ⟨x, by rw [List.getElem?_append_left (by omega)]; exact g1, ?_, fun j hj => ?_⟩
      · rw [h2, sl]
        show (if _ then _ else _) = _
        rw [if_neg (sl_ne ck (by omega) (by omega))]; exact g2
      · rw [sl, nq]; exact g3 j hj
  · rw [if_neg c] at hf hz
    have l16 : tl.length = 16 := by omega
    have e : tpush tl (kd, ρ) = tl.drop 1 ++ [(kd, ρ)] := by unfold tpush; rw [show tl.length - 15 = 1 by omega]
    have sl : ∀ k, tr_sl M2 tb k = tr_sl M tb (k + 1) := fun k => by unfold tr_sl; rw [hf]; omega
    rw [e]
    have ll : (tl.drop 1 ++ [(kd, ρ)]).length = 16 := by rw [List.length_append, List.length_drop, List.length_singleton]; omega
    refine ⟨⟨by rw [hf]; omega, by rw [hz]; omega⟩, by rw [hz, ll]; omega, by rw [ll]; omega, fun k hk => ?_⟩
    rw [ll] at hk
    by_cases ck : k = 15
    · refine ⟨(kd, ρ), by rw [ck, List.getElem?_append_right (by rw [List.length_drop]; omega), List.length_drop, l16]; rfl, by rw [h2, sl, ck, l16]; exact if_pos rfl, fun j hj => ?_⟩
      rw [sl, nq, ck]
      have := h5 j hj
      rw [l16] at this
      exact this
    · obtain ⟨x, g1, g2, g3⟩ := h4 (k + 1) (by omega)
      refine ⟨x, by rw [List.getElem?_append_left (by rw [List.length_drop]; omega), List.getElem?_drop, Nat.add_comm]; exact g1, ?_, fun j hj => ?_⟩
      · rw [h2, sl]
        show (if _ then _ else _) = _
        rw [if_neg (sl_ne (by omega) (by omega) (by omega))]; exact g2
      · rw [sl, nq]; exact g3 j hj
theorem ctl_clear (h : tr_ok M tb) (e : M2 tb = px_up M tb 3 0 tb) : ctlR M2 tb [] := by
  refine ⟨⟨by rw [e, up_ne (by decide)]; exact h.1, by rw [e, up_s]; omega⟩, by rw [e, up_s]; rfl, by decide, fun k hk => absurd hk (Nat.not_lt_zero _)⟩
end CTL
theorem qk_mo {sh : List (Nat × Nat)} {A B : List Nat} {M M2 : Nat → Nat → Int} (q : px_qk sh A M M2) (h : ∀ a ∈ A, a ∈ B) : px_qk sh B M M2 := ⟨q.1, q.2.1, eo_mono q.2.2 h⟩
abbrev stA : List Nat := [0, 2, 4, 5, 6, 7, 12, 13, 205] ++ px_trA 27
theorem nv_27 {s : Nat} (hs : s < 17) : ∀ a ∈ px_nvA (27 + 3 + 4 * s), a ∈ px_trA 27 := fun a ha => trA_iff.mpr (by
  simp only [List.mem_cons, List.not_mem_nil, or_false] at ha
  omega)
theorem ct_S_settle {xs : Nat → Int} {L d : Nat} {sh : List (Nat × Nat)} {M0 : Nat → Nat → Int} (hd : 3 ≤ d) (hW : px_W0 <+: sh) (hF : px_Fx M0) (hG : px_RG sh M0)  (hrc : ∀ j, j < 5 → 0 ≤ M0 205 j ∧ M0 205 j ≤ 1000000000) {tl : sp_T} {ρ : Nat → Int} (hP : ctlP M0 27 tl ρ) {kd a : Int} (hkd0 : rg kd) (ha6 : -6 ≤ a ∧ a ≤ 100000 ∧ a ≠ -4) : ∃ v M, (px_qk sh [0, 27, 29, 205] M0 M ∧ (v = a) ∧ (M 0 13 = if a < 0 then a else 0) ∧ (M 205 = bmC (M0 205) a) ∧ (ctlR M 27 (if 0 ≤ a then tpush tl (kd, ρ) else tl)) ∧ (fk 0 [13] M0 M)) ∧ px_Cl xs L d 113 [.ref 0, .int (iI (kd)), .int (iI (a))] (sh, M0) (some (.int (iI v))) (sh, M) := by
  obtain ⟨d, rfl⟩ : ∃ e, d = e + 1 := ⟨d - 1, by omega⟩
  have q0 : px_qk sh [0, 27, 29, 205] M0 M0 := ⟨hF, hG, eo_rf⟩
  refine vc_i (Nat.le_of_ble_eq_true rfl) ?_
  show px_R xs L d 113 (0, [.ref 0, .int (iI (kd)), .int (iI (a))], [], (sh, M0)) (fun r h' => ∃ v M', r = some (.int (iI v)) ∧ h' = (sh, M') ∧ px_qk sh [0, 27, 29, 205] M0 M' ∧ v = a ∧ (M' 0 13 = if a < 0 then a else 0) ∧ M' 205 = bmC (M0 205) a ∧ ctlR M' 27 (if 0 ≤ a then tpush tl (kd, ρ) else tl) ∧ fk 0 [13] M0 M')
  refine rr_iload_n pf_113_0 rfl ?_
  refine rr_if_ge 10 pf_113_1 (by decide) (by unfold rg; omega) (fun c1 => ?_) (fun c1 => ?_)
  · refine rr_aload_n pf_113_10 rfl ?_
    refine rr_getR pf_113_11 po_113 pg_8_39 rfl (ws_0 hW) (by decide) (wr_0_5 q0.1) ?_
    refine rr_iload_n pf_113_14 rfl ?_
    obtain ⟨M2, ⟨kq3, e2M2, efM2, ezM2⟩, hcM2⟩ := ct_Trail_keep (xs := xs) (L := L) (d := d) (tb := 27) (kd := kd) (by omega) hW q0.1 q0.2.1 px_tr27 hP.1.1 hkd0
    have hTM2 : ctlR M2 27 (tpush tl (kd, ρ)) := ctl_push hP (fun a h1 h2 => kq3.2.2 a (fun z => by
      simp only [List.mem_cons, List.not_mem_nil, or_false] at z
      omega)) e2M2 efM2 ezM2
    have q3 := qk_trm q0 kq3 (by decide)
    have rq4 := fk_q (fk_rf 0 [13] M0) kq3 (by decide)
    have e5 : M2 205 = M0 205 := (kq3.2.2 205 (by decide)).trans (rfl : M0 205 = M0 205)
    refine rr_cV1 pf_113_15 po_113 pc_8_360 (ws_27 hW) po_107 (by decide) rfl hcM2 ?_
    refine rr_aload_n pf_113_18 rfl ?_
    refine rr_iload_n pf_113_19 rfl ?_
    obtain ⟨r8, M6, ⟨kq7, pv_M6, p13_M6, pf_M6⟩, hcM6⟩ := ct_S_accept (xs := xs) (L := L) (d := d) (u := a) (by omega) hW q3.1 q3.2.1 (by unfold rg; omega)
    have q7 := qk_trm q3 kq7 (by decide)
    have rq9 := fk_tr rq4 pf_M6 (by decide)
    have e10 : M6 205 = M0 205 := (kq7.2.2 205 (by decide)).trans e5
    refine rr_cV1 pf_113_20 po_113 pc_8_115 (ws_0 hW) po_15 (by decide) rfl hcM6 ?_
    refine rr_iret pf_113_23 pt_113 ⟨_, M6, rfl, rfl, q7, (pv_M6), (by rw [if_neg (by omega)]; exact p13_M6), (by unfold bmC; rw [if_neg (by omega)]; exact e10), (by
              rw [if_pos (by omega)]
              exact ctl_eq hTM2 (fun a h1 h2 => kq7.2.2 a (fun z => by
                simp only [List.mem_cons, List.not_mem_nil, or_false] at z
                omega))), (rq9)⟩
  · refine rr_aload_n pf_113_4 rfl ?_
    refine rr_iload_n pf_113_5 rfl ?_
    obtain ⟨r13, M11, ⟨kq12, pv_M11, p13_M11, p5_M11, pf_M11⟩, hcM11⟩ := ct_S_refuse (xs := xs) (L := L) (d := d) (u := a) (by omega) hW q0.1 q0.2.1 (by omega) hrc
    have q12 := qk_trm q0 kq12 (by decide)
    have rq14 := fk_tr (fk_rf 0 [13] M0) pf_M11 (by decide)
    refine rr_cV1 pf_113_6 po_113 pc_8_99 (ws_0 hW) po_13 (by decide) rfl hcM11 ?_
    refine rr_iret pf_113_9 pt_113 ⟨_, M11, rfl, rfl, q12, (pv_M11), (by rw [if_pos (by omega)]; exact p13_M11), (p5_M11), (by
              rw [if_neg (by omega)]
              exact ctl_eq hP.1 (fun a h1 h2 => kq12.2.2 a (fun z => by
                simp only [List.mem_cons, List.not_mem_nil, or_false] at z
                omega))), (rq14)⟩
section V4
variable {lw : List sp_C} {ρ : Nat → Int}
theorem v4_pre (h : sp_ok ρ) {w : Int} : sp_preV lw ρ w ≠ -4 := by
  unfold sp_preV
  split
  · split
    · decide
    · have := sp_preA_b (lw := lw) h (w := w.toNat) (by have := h.1; omega) 16 (by omega)
      omega
  · decide
theorem v4_scr (h : sp_ok ρ) {p i : Int} : sp_scrV ρ p i ≠ -4 := by
  unfold sp_scrV
  split
  · have := h.2.2.2.2.2.2.2.2.2.1 (p * 3 + i).toNat (by omega)
    split <;> omega
  · decide
theorem v4_wal (h : sp_ok ρ) {p : Int} : sp_walV ρ p ≠ -4 := by
  have := h.2.2.2.2.2.2.2.2.1
  unfold sp_walV
  split <;> omega
theorem v4_sit (h : sp_ok ρ) {l s : Int} : sp_sitV ρ l s ≠ -4 := by
  unfold sp_sitV
  split
  · split
    · have := sp_seat_b h (l := l.toNat) (by have := h.2.1; omega)
      split <;> omega
    · decide
  · decide
theorem v4_pas (h : sp_ok ρ) : sp_pasV ρ ≠ -4 := by
  have := h.2.2.2.2.2.1
  unfold sp_pasV
  split <;> omega
end V4
theorem ct_S_preach {xs : Nat → Int} {L d : Nat} {sh : List (Nat × Nat)} {M0 : Nat → Nat → Int} (hd : 10 ≤ d) (hW : px_W0 <+: sh) (hF : px_Fx M0) (hG : px_RG sh M0)  (hρ : sp_ok (rc M0 3)) {lw : List sp_C} (hlw : px_lw sh M0 3 lw) (hrc : ∀ j, j < 5 → 0 ≤ M0 205 j ∧ M0 205 j ≤ 1000000000) {tl : sp_T} (hctl : ctlR M0 27 tl) {w : Int} (hw0 : rg w) : ∃ v M, (px_qk sh stA M0 M ∧ (v = sp_preV lw (rc M0 3) w) ∧ (rc M 3 = sp_preW lw (rc M0 3) w) ∧ (M 0 13 = if v < 0 then v else 0) ∧ (M 205 = bmC (M0 205) v) ∧ (ctlR M 27 (if 0 ≤ v then tpush tl (0, rc M0 3) else tl)) ∧ (fk 0 [13] M0 M)) ∧ px_Cl xs L d 112 [.ref 0, .int (iI (w))] (sh, M0) (some (.int (iI v))) (sh, M) := by
  obtain ⟨d, rfl⟩ : ∃ e, d = e + 1 := ⟨d - 1, by omega⟩
  have q0 : px_qk sh stA M0 M0 := ⟨hF, hG, eo_rf⟩
  refine vc_i (Nat.le_of_ble_eq_true rfl) ?_
  show px_R xs L d 112 (0, [.ref 0, .int (iI (w))], [], (sh, M0)) (fun r h' => ∃ v M', r = some (.int (iI v)) ∧ h' = (sh, M') ∧ px_qk sh stA M0 M' ∧ v = sp_preV lw (rc M0 3) w ∧ rc M' 3 = sp_preW lw (rc M0 3) w ∧ (M' 0 13 = if v < 0 then v else 0) ∧ M' 205 = bmC (M0 205) v ∧ ctlR M' 27 (if 0 ≤ v then tpush tl (0, rc M0 3) else tl) ∧ fk 0 [13] M0 M')
  have hv4 : sp_preV lw (rc M0 3) w ≠ -4 := v4_pre hρ
  refine rr_aload_n pf_112_0 rfl ?_
  refine rr_getR pf_112_1 po_112 pg_8_39 rfl (ws_0 hW) (by decide) (wr_0_5 q0.1) ?_
  refine rr_aload_n pf_112_4 rfl ?_
  refine rr_getR pf_112_5 po_112 pg_8_21 rfl (ws_0 hW) (by decide) (wr_0_1 q0.1) ?_
  refine rr_getR pf_112_8 po_112 pg_8_131 rfl (ws_3 hW) (by decide) (wr_3_0 q0.1) ?_
  obtain ⟨M1, ⟨kq2, pnM1⟩, hcM1⟩ := ct_Trail_hold (xs := xs) (L := L) (d := d) (tb := 27) (nb := 4) (by omega) hW q0.1 q0.2.1 px_tr27 hctl.1 (show px_nv 4 by unfold px_nv; decide) (by omega)
  have hP := ctl_hold hctl kq2 pnM1
  have kk : px_qk sh (px_trA 27) M0 M1 := qk_mo kq2 (nv_27 (sl_lt _))
  have er : rc M1 3 = rc M0 3 := rc_eo kk.2.2 (fun a ha => by have := trA_iff.mp ha; omega)
  have hρ1 : sp_ok (rc M1 3) := by rw [er]; exact hρ
  have hlw1 : px_lw sh M1 3 lw := lw_eo hlw kk.2.2 (by decide +kernel) (by decide +kernel) (by decide +kernel)
  have q2 : px_qk sh stA M0 M1 := qk_mo kk (by decide +kernel)
  have rq3 := fk_q (fk_rf 0 [13] M0) kk (by decide +kernel)
  have e205a : M1 205 = M0 205 := kk.2.2 205 (by decide +kernel)
  refine rr_cV1 pf_112_11 po_112 pc_8_248 (ws_27 hW) po_100 (by decide) rfl hcM1 ?_
  refine rr_aload_n pf_112_14 rfl ?_
  refine rr_iconst pf_112_15 ?_
  refine rr_aload_n pf_112_16 rfl ?_
  refine rr_getR pf_112_17 po_112 pg_8_21 rfl (ws_0 hW) (by decide) (wr_0_1 q2.1) ?_
  refine rr_iload_n pf_112_20 rfl ?_
  obtain ⟨M4, ⟨kq5, prM4⟩, hcM4⟩ := ct_Church_preachWord (xs := xs) (L := L) (d := d) (cb := 3) (v := w) (by omega) hW q2.1 q2.2.1 px_ch3 hρ1 hlw1 hw0
  rw [er] at prM4 hcM4
  have hvb : -3 ≤ sp_preV lw (rc M0 3) w ∧ sp_preV lw (rc M0 3) w ≤ 1000 := preV_b hρ _
  obtain ⟨vz, hvz⟩ : ∃ z, z = sp_preV lw (rc M0 3) w := ⟨_, rfl⟩
  rw [← hvz] at hvb hcM4
  have q5 := qk_trm q2 kq5 (by decide +kernel)
  have hP2 : ctlP M4 27 tl (rc M0 3) := by
    have z := ctP_eq hP (M2 := M4) (fun a h1 h2 => kq5.2.2 a (fun z => by
      simp only [List.mem_cons, List.not_mem_nil, or_false] at z
      omega))
    exact ⟨z.1, fun j hj => (z.2 j hj).trans (nn_rc (cb := 3) hj).symm⟩
  have rq6 := fk_q rq3 kq5 (by decide)
  have e205b : M4 205 = M0 205 := (kq5.2.2 205 (by decide)).trans e205a
  refine rr_cV1 pf_112_21 po_112 pc_8_252 (ws_3 hW) po_101 (by decide) rfl hcM4 ?_
  obtain ⟨r9, M7, ⟨kq8, pv_M7, p13_M7, p5_M7, pt_M7, pf_M7⟩, hcM7⟩ := ct_S_settle (xs := xs) (L := L) (d := d) (kd := 0) (a := vz) (tl := tl) (ρ := (rc M0 3)) (by omega) hW q5.1 q5.2.1 (by rw [e205b]; exact hrc) hP2 (by unfold rg; omega) ⟨by omega, by omega, by rw [hvz]; exact hv4⟩
  have q8 := qk_trm q5 kq8 (by decide +kernel)
  have rq10 := fk_tr rq6 pf_M7 (by decide)
  refine rr_cV2 pf_112_24 po_112 pc_8_255 (ws_0 hW) po_113 (by decide) rfl hcM7 ?_
  refine rr_iret pf_112_27 pt_112 ⟨_, M7, rfl, rfl, q8, (by rw [pv_M7]; exact hvz), (by rw [rc_eo kq8.2.2 (by decide)]; exact prM4), (by rw [pv_M7]; exact p13_M7), (by rw [pv_M7, p5_M7, e205b]), (by rw [pv_M7]; exact pt_M7), (rq10)⟩
theorem ct_S_scrape {xs : Nat → Int} {L d : Nat} {sh : List (Nat × Nat)} {M0 : Nat → Nat → Int} (hd : 10 ≤ d) (hW : px_W0 <+: sh) (hF : px_Fx M0) (hG : px_RG sh M0)  (hρ : sp_ok (rc M0 3)) {lw : List sp_C} (hlw : px_lw sh M0 3 lw) (hrc : ∀ j, j < 5 → 0 ≤ M0 205 j ∧ M0 205 j ≤ 1000000000) {tl : sp_T} (hctl : ctlR M0 27 tl) {p h : Int} (hp0 : rg p) (hh0 : rg h) : ∃ v M, (px_qk sh stA M0 M ∧ (v = sp_scrV (rc M0 3) p h) ∧ (rc M 3 = sp_scrR (rc M0 3) p h) ∧ (M 0 13 = if v < 0 then v else 0) ∧ (M 205 = bmC (M0 205) v) ∧ (ctlR M 27 (if 0 ≤ v then tpush tl (1, rc M0 3) else tl)) ∧ (fk 0 [13] M0 M)) ∧ px_Cl xs L d 114 [.ref 0, .int (iI (p)), .int (iI (h))] (sh, M0) (some (.int (iI v))) (sh, M) := by
  obtain ⟨d, rfl⟩ : ∃ e, d = e + 1 := ⟨d - 1, by omega⟩
  have q0 : px_qk sh stA M0 M0 := ⟨hF, hG, eo_rf⟩
  refine vc_i (Nat.le_of_ble_eq_true rfl) ?_
  show px_R xs L d 114 (0, [.ref 0, .int (iI (p)), .int (iI (h))], [], (sh, M0)) (fun r h' => ∃ v M', r = some (.int (iI v)) ∧ h' = (sh, M') ∧ px_qk sh stA M0 M' ∧ v = sp_scrV (rc M0 3) p h ∧ rc M' 3 = sp_scrR (rc M0 3) p h ∧ (M' 0 13 = if v < 0 then v else 0) ∧ M' 205 = bmC (M0 205) v ∧ ctlR M' 27 (if 0 ≤ v then tpush tl (1, rc M0 3) else tl) ∧ fk 0 [13] M0 M')
  have hv4 : sp_scrV (rc M0 3) p h ≠ -4 := v4_scr hρ
  refine rr_aload_n pf_114_0 rfl ?_
  refine rr_getR pf_114_1 po_114 pg_8_39 rfl (ws_0 hW) (by decide) (wr_0_5 q0.1) ?_
  refine rr_aload_n pf_114_4 rfl ?_
  refine rr_getR pf_114_5 po_114 pg_8_21 rfl (ws_0 hW) (by decide) (wr_0_1 q0.1) ?_
  refine rr_getR pf_114_8 po_114 pg_8_131 rfl (ws_3 hW) (by decide) (wr_3_0 q0.1) ?_
  obtain ⟨M1, ⟨kq2, pnM1⟩, hcM1⟩ := ct_Trail_hold (xs := xs) (L := L) (d := d) (tb := 27) (nb := 4) (by omega) hW q0.1 q0.2.1 px_tr27 hctl.1 (show px_nv 4 by unfold px_nv; decide) (by omega)
  have hP := ctl_hold hctl kq2 pnM1
  have kk : px_qk sh (px_trA 27) M0 M1 := qk_mo kq2 (nv_27 (sl_lt _))
  have er : rc M1 3 = rc M0 3 := rc_eo kk.2.2 (fun a ha => by have := trA_iff.mp ha; omega)
  have hρ1 : sp_ok (rc M1 3) := by rw [er]; exact hρ
  have hlw1 : px_lw sh M1 3 lw := lw_eo hlw kk.2.2 (by decide +kernel) (by decide +kernel) (by decide +kernel)
  have q2 : px_qk sh stA M0 M1 := qk_mo kk (by decide +kernel)
  have rq3 := fk_q (fk_rf 0 [13] M0) kk (by decide +kernel)
  have e205a : M1 205 = M0 205 := kk.2.2 205 (by decide +kernel)
  refine rr_cV1 pf_114_11 po_114 pc_8_248 (ws_27 hW) po_100 (by decide) rfl hcM1 ?_
  refine rr_aload_n pf_114_14 rfl ?_
  refine rr_iconst pf_114_15 ?_
  refine rr_aload_n pf_114_16 rfl ?_
  refine rr_getR pf_114_17 po_114 pg_8_21 rfl (ws_0 hW) (by decide) (wr_0_1 q2.1) ?_
  refine rr_iload_n pf_114_20 rfl ?_
  refine rr_iload_n pf_114_21 rfl ?_
  obtain ⟨M4, ⟨kq5, prM4⟩, hcM4⟩ := ct_Church_scrapeOne (xs := xs) (L := L) (d := d) (cb := 3) (p := p) (h := h) (by omega) hW q2.1 q2.2.1 px_ch3 hρ1 hp0 hh0
  rw [er] at prM4 hcM4
  have hvb : -3 ≤ sp_scrV (rc M0 3) p h ∧ sp_scrV (rc M0 3) p h ≤ 1000 := scrV_b hρ _ _
  obtain ⟨vz, hvz⟩ : ∃ z, z = sp_scrV (rc M0 3) p h := ⟨_, rfl⟩
  rw [← hvz] at hvb hcM4
  have q5 := qk_trm q2 kq5 (by decide +kernel)
  have hP2 : ctlP M4 27 tl (rc M0 3) := by
    have z := ctP_eq hP (M2 := M4) (fun a h1 h2 => kq5.2.2 a (fun z => by
      simp only [List.mem_cons, List.not_mem_nil, or_false] at z
      omega))
    exact ⟨z.1, fun j hj => (z.2 j hj).trans (nn_rc (cb := 3) hj).symm⟩
  have rq6 := fk_q rq3 kq5 (by decide)
  have e205b : M4 205 = M0 205 := (kq5.2.2 205 (by decide)).trans e205a
  refine rr_cV2 pf_114_22 po_114 pc_8_258 (ws_3 hW) po_102 (by decide) rfl hcM4 ?_
  obtain ⟨r9, M7, ⟨kq8, pv_M7, p13_M7, p5_M7, pt_M7, pf_M7⟩, hcM7⟩ := ct_S_settle (xs := xs) (L := L) (d := d) (kd := 1) (a := vz) (tl := tl) (ρ := (rc M0 3)) (by omega) hW q5.1 q5.2.1 (by rw [e205b]; exact hrc) hP2 (by unfold rg; omega) ⟨by omega, by omega, by rw [hvz]; exact hv4⟩
  have q8 := qk_trm q5 kq8 (by decide +kernel)
  have rq10 := fk_tr rq6 pf_M7 (by decide)
  refine rr_cV2 pf_114_25 po_114 pc_8_255 (ws_0 hW) po_113 (by decide) rfl hcM7 ?_
  refine rr_iret pf_114_28 pt_114 ⟨_, M7, rfl, rfl, q8, (by rw [pv_M7]; exact hvz), (by rw [rc_eo kq8.2.2 (by decide)]; exact prM4), (by rw [pv_M7]; exact p13_M7), (by rw [pv_M7, p5_M7, e205b]), (by rw [pv_M7]; exact pt_M7), (rq10)⟩
theorem ct_S_walk {xs : Nat → Int} {L d : Nat} {sh : List (Nat × Nat)} {M0 : Nat → Nat → Int} (hd : 10 ≤ d) (hW : px_W0 <+: sh) (hF : px_Fx M0) (hG : px_RG sh M0)  (hρ : sp_ok (rc M0 3)) {lw : List sp_C} (hlw : px_lw sh M0 3 lw) (hrc : ∀ j, j < 5 → 0 ≤ M0 205 j ∧ M0 205 j ≤ 1000000000) {tl : sp_T} (hctl : ctlR M0 27 tl) {p : Int} (hp0 : rg p) : ∃ v M, (px_qk sh stA M0 M ∧ (v = sp_walV (rc M0 3) p) ∧ (rc M 3 = sp_walR (rc M0 3) p) ∧ (M 0 13 = if v < 0 then v else 0) ∧ (M 205 = bmC (M0 205) v) ∧ (ctlR M 27 (if 0 ≤ v then tpush tl (2, rc M0 3) else tl)) ∧ (fk 0 [13] M0 M)) ∧ px_Cl xs L d 115 [.ref 0, .int (iI (p))] (sh, M0) (some (.int (iI v))) (sh, M) := by
  obtain ⟨d, rfl⟩ : ∃ e, d = e + 1 := ⟨d - 1, by omega⟩
  have q0 : px_qk sh stA M0 M0 := ⟨hF, hG, eo_rf⟩
  refine vc_i (Nat.le_of_ble_eq_true rfl) ?_
  show px_R xs L d 115 (0, [.ref 0, .int (iI (p))], [], (sh, M0)) (fun r h' => ∃ v M', r = some (.int (iI v)) ∧ h' = (sh, M') ∧ px_qk sh stA M0 M' ∧ v = sp_walV (rc M0 3) p ∧ rc M' 3 = sp_walR (rc M0 3) p ∧ (M' 0 13 = if v < 0 then v else 0) ∧ M' 205 = bmC (M0 205) v ∧ ctlR M' 27 (if 0 ≤ v then tpush tl (2, rc M0 3) else tl) ∧ fk 0 [13] M0 M')
  have hv4 : sp_walV (rc M0 3) p ≠ -4 := v4_wal hρ
  refine rr_aload_n pf_115_0 rfl ?_
  refine rr_getR pf_115_1 po_115 pg_8_39 rfl (ws_0 hW) (by decide) (wr_0_5 q0.1) ?_
  refine rr_aload_n pf_115_4 rfl ?_
  refine rr_getR pf_115_5 po_115 pg_8_21 rfl (ws_0 hW) (by decide) (wr_0_1 q0.1) ?_
  refine rr_getR pf_115_8 po_115 pg_8_131 rfl (ws_3 hW) (by decide) (wr_3_0 q0.1) ?_
  obtain ⟨M1, ⟨kq2, pnM1⟩, hcM1⟩ := ct_Trail_hold (xs := xs) (L := L) (d := d) (tb := 27) (nb := 4) (by omega) hW q0.1 q0.2.1 px_tr27 hctl.1 (show px_nv 4 by unfold px_nv; decide) (by omega)
  have hP := ctl_hold hctl kq2 pnM1
  have kk : px_qk sh (px_trA 27) M0 M1 := qk_mo kq2 (nv_27 (sl_lt _))
  have er : rc M1 3 = rc M0 3 := rc_eo kk.2.2 (fun a ha => by have := trA_iff.mp ha; omega)
  have hρ1 : sp_ok (rc M1 3) := by rw [er]; exact hρ
  have hlw1 : px_lw sh M1 3 lw := lw_eo hlw kk.2.2 (by decide +kernel) (by decide +kernel) (by decide +kernel)
  have q2 : px_qk sh stA M0 M1 := qk_mo kk (by decide +kernel)
  have rq3 := fk_q (fk_rf 0 [13] M0) kk (by decide +kernel)
  have e205a : M1 205 = M0 205 := kk.2.2 205 (by decide +kernel)
  refine rr_cV1 pf_115_11 po_115 pc_8_248 (ws_27 hW) po_100 (by decide) rfl hcM1 ?_
  refine rr_aload_n pf_115_14 rfl ?_
  refine rr_iconst pf_115_15 ?_
  refine rr_aload_n pf_115_16 rfl ?_
  refine rr_getR pf_115_17 po_115 pg_8_21 rfl (ws_0 hW) (by decide) (wr_0_1 q2.1) ?_
  refine rr_iload_n pf_115_20 rfl ?_
  obtain ⟨M4, ⟨kq5, prM4⟩, hcM4⟩ := ct_Church_walkTo (xs := xs) (L := L) (d := d) (cb := 3) (p := p) (by omega) hW q2.1 q2.2.1 px_ch3 hρ1 hp0
  rw [er] at prM4 hcM4
  have hvb : -3 ≤ sp_walV (rc M0 3) p ∧ sp_walV (rc M0 3) p ≤ 1000 := walV_b hρ _
  obtain ⟨vz, hvz⟩ : ∃ z, z = sp_walV (rc M0 3) p := ⟨_, rfl⟩
  rw [← hvz] at hvb hcM4
  have q5 := qk_trm q2 kq5 (by decide +kernel)
  have hP2 : ctlP M4 27 tl (rc M0 3) := by
    have z := ctP_eq hP (M2 := M4) (fun a h1 h2 => kq5.2.2 a (fun z => by
      simp only [List.mem_cons, List.not_mem_nil, or_false] at z
      omega))
    exact ⟨z.1, fun j hj => (z.2 j hj).trans (nn_rc (cb := 3) hj).symm⟩
  have rq6 := fk_q rq3 kq5 (by decide)
  have e205b : M4 205 = M0 205 := (kq5.2.2 205 (by decide)).trans e205a
  refine rr_cV1 pf_115_21 po_115 pc_8_261 (ws_3 hW) po_103 (by decide) rfl hcM4 ?_
  obtain ⟨r9, M7, ⟨kq8, pv_M7, p13_M7, p5_M7, pt_M7, pf_M7⟩, hcM7⟩ := ct_S_settle (xs := xs) (L := L) (d := d) (kd := 2) (a := vz) (tl := tl) (ρ := (rc M0 3)) (by omega) hW q5.1 q5.2.1 (by rw [e205b]; exact hrc) hP2 (by unfold rg; omega) ⟨by omega, by omega, by rw [hvz]; exact hv4⟩
  have q8 := qk_trm q5 kq8 (by decide +kernel)
  have rq10 := fk_tr rq6 pf_M7 (by decide)
  refine rr_cV2 pf_115_24 po_115 pc_8_255 (ws_0 hW) po_113 (by decide) rfl hcM7 ?_
  refine rr_iret pf_115_27 pt_115 ⟨_, M7, rfl, rfl, q8, (by rw [pv_M7]; exact hvz), (by rw [rc_eo kq8.2.2 (by decide)]; exact prM4), (by rw [pv_M7]; exact p13_M7), (by rw [pv_M7, p5_M7, e205b]), (by rw [pv_M7]; exact pt_M7), (rq10)⟩
theorem ct_S_sit {xs : Nat → Int} {L d : Nat} {sh : List (Nat × Nat)} {M0 : Nat → Nat → Int} (hd : 10 ≤ d) (hW : px_W0 <+: sh) (hF : px_Fx M0) (hG : px_RG sh M0)  (hρ : sp_ok (rc M0 3)) {lw : List sp_C} (hlw : px_lw sh M0 3 lw) (hrc : ∀ j, j < 5 → 0 ≤ M0 205 j ∧ M0 205 j ≤ 1000000000) {tl : sp_T} (hctl : ctlR M0 27 tl) {l s : Int} (hl0 : rg l) (hs0 : rg s) : ∃ v M, (px_qk sh stA M0 M ∧ (v = sp_sitV (rc M0 3) l s) ∧ (rc M 3 = sp_sitR (rc M0 3) l s) ∧ (M 0 13 = if v < 0 then v else 0) ∧ (M 205 = bmC (M0 205) v) ∧ (ctlR M 27 (if 0 ≤ v then tpush tl (3, rc M0 3) else tl)) ∧ (fk 0 [13] M0 M)) ∧ px_Cl xs L d 116 [.ref 0, .int (iI (l)), .int (iI (s))] (sh, M0) (some (.int (iI v))) (sh, M) := by
  obtain ⟨d, rfl⟩ : ∃ e, d = e + 1 := ⟨d - 1, by omega⟩
  have q0 : px_qk sh stA M0 M0 := ⟨hF, hG, eo_rf⟩
  refine vc_i (Nat.le_of_ble_eq_true rfl) ?_
  show px_R xs L d 116 (0, [.ref 0, .int (iI (l)), .int (iI (s))], [], (sh, M0)) (fun r h' => ∃ v M', r = some (.int (iI v)) ∧ h' = (sh, M') ∧ px_qk sh stA M0 M' ∧ v = sp_sitV (rc M0 3) l s ∧ rc M' 3 = sp_sitR (rc M0 3) l s ∧ (M' 0 13 = if v < 0 then v else 0) ∧ M' 205 = bmC (M0 205) v ∧ ctlR M' 27 (if 0 ≤ v then tpush tl (3, rc M0 3) else tl) ∧ fk 0 [13] M0 M')
  have hv4 : sp_sitV (rc M0 3) l s ≠ -4 := v4_sit hρ
  refine rr_aload_n pf_116_0 rfl ?_
  refine rr_getR pf_116_1 po_116 pg_8_39 rfl (ws_0 hW) (by decide) (wr_0_5 q0.1) ?_
  refine rr_aload_n pf_116_4 rfl ?_
  refine rr_getR pf_116_5 po_116 pg_8_21 rfl (ws_0 hW) (by decide) (wr_0_1 q0.1) ?_
  refine rr_getR pf_116_8 po_116 pg_8_131 rfl (ws_3 hW) (by decide) (wr_3_0 q0.1) ?_
  obtain ⟨M1, ⟨kq2, pnM1⟩, hcM1⟩ := ct_Trail_hold (xs := xs) (L := L) (d := d) (tb := 27) (nb := 4) (by omega) hW q0.1 q0.2.1 px_tr27 hctl.1 (show px_nv 4 by unfold px_nv; decide) (by omega)
  have hP := ctl_hold hctl kq2 pnM1
  have kk : px_qk sh (px_trA 27) M0 M1 := qk_mo kq2 (nv_27 (sl_lt _))
  have er : rc M1 3 = rc M0 3 := rc_eo kk.2.2 (fun a ha => by have := trA_iff.mp ha; omega)
  have hρ1 : sp_ok (rc M1 3) := by rw [er]; exact hρ
  have hlw1 : px_lw sh M1 3 lw := lw_eo hlw kk.2.2 (by decide +kernel) (by decide +kernel) (by decide +kernel)
  have q2 : px_qk sh stA M0 M1 := qk_mo kk (by decide +kernel)
  have rq3 := fk_q (fk_rf 0 [13] M0) kk (by decide +kernel)
  have e205a : M1 205 = M0 205 := kk.2.2 205 (by decide +kernel)
  refine rr_cV1 pf_116_11 po_116 pc_8_248 (ws_27 hW) po_100 (by decide) rfl hcM1 ?_
  refine rr_aload_n pf_116_14 rfl ?_
  refine rr_iconst pf_116_15 ?_
  refine rr_aload_n pf_116_16 rfl ?_
  refine rr_getR pf_116_17 po_116 pg_8_21 rfl (ws_0 hW) (by decide) (wr_0_1 q2.1) ?_
  refine rr_iload_n pf_116_20 rfl ?_
  refine rr_iload_n pf_116_21 rfl ?_
  obtain ⟨M4, ⟨kq5, prM4⟩, hcM4⟩ := ct_Church_seatAt (xs := xs) (L := L) (d := d) (cb := 3) (l := l) (s := s) (by omega) hW q2.1 q2.2.1 px_ch3 hρ1 hl0 hs0
  rw [er] at prM4 hcM4
  have hvb : -3 ≤ sp_sitV (rc M0 3) l s ∧ sp_sitV (rc M0 3) l s ≤ 1000 := sitV_b hρ _ _
  obtain ⟨vz, hvz⟩ : ∃ z, z = sp_sitV (rc M0 3) l s := ⟨_, rfl⟩
  rw [← hvz] at hvb hcM4
  have q5 := qk_trm q2 kq5 (by decide +kernel)
  have hP2 : ctlP M4 27 tl (rc M0 3) := by
    have z := ctP_eq hP (M2 := M4) (fun a h1 h2 => kq5.2.2 a (fun z => by
      simp only [List.mem_cons, List.not_mem_nil, or_false] at z
      omega))
    exact ⟨z.1, fun j hj => (z.2 j hj).trans (nn_rc (cb := 3) hj).symm⟩
  have rq6 := fk_q rq3 kq5 (by decide)
  have e205b : M4 205 = M0 205 := (kq5.2.2 205 (by decide)).trans e205a
  refine rr_cV2 pf_116_22 po_116 pc_8_264 (ws_3 hW) po_104 (by decide) rfl hcM4 ?_
  obtain ⟨r9, M7, ⟨kq8, pv_M7, p13_M7, p5_M7, pt_M7, pf_M7⟩, hcM7⟩ := ct_S_settle (xs := xs) (L := L) (d := d) (kd := 3) (a := vz) (tl := tl) (ρ := (rc M0 3)) (by omega) hW q5.1 q5.2.1 (by rw [e205b]; exact hrc) hP2 (by unfold rg; omega) ⟨by omega, by omega, by rw [hvz]; exact hv4⟩
  have q8 := qk_trm q5 kq8 (by decide +kernel)
  have rq10 := fk_tr rq6 pf_M7 (by decide)
  refine rr_cV2 pf_116_25 po_116 pc_8_255 (ws_0 hW) po_113 (by decide) rfl hcM7 ?_
  refine rr_iret pf_116_28 pt_116 ⟨_, M7, rfl, rfl, q8, (by rw [pv_M7]; exact hvz), (by rw [rc_eo kq8.2.2 (by decide)]; exact prM4), (by rw [pv_M7]; exact p13_M7), (by rw [pv_M7, p5_M7, e205b]), (by rw [pv_M7]; exact pt_M7), (rq10)⟩
theorem ct_S_pass {xs : Nat → Int} {L d : Nat} {sh : List (Nat × Nat)} {M0 : Nat → Nat → Int} (hd : 10 ≤ d) (hW : px_W0 <+: sh) (hF : px_Fx M0) (hG : px_RG sh M0)  (hρ : sp_ok (rc M0 3)) {lw : List sp_C} (hlw : px_lw sh M0 3 lw) (hrc : ∀ j, j < 5 → 0 ≤ M0 205 j ∧ M0 205 j ≤ 1000000000) {tl : sp_T} (hctl : ctlR M0 27 tl)  : ∃ v M, (px_qk sh stA M0 M ∧ (v = sp_pasV (rc M0 3)) ∧ (rc M 3 = sp_pasW lw (rc M0 3)) ∧ (M 0 13 = if v < 0 then v else 0) ∧ (M 205 = bmC (M0 205) v) ∧ (ctlR M 27 (if 0 ≤ v then tpush tl (4, rc M0 3) else tl)) ∧ (fk 0 [13] M0 M)) ∧ px_Cl xs L d 117 [.ref 0] (sh, M0) (some (.int (iI v))) (sh, M) := by
  obtain ⟨d, rfl⟩ : ∃ e, d = e + 1 := ⟨d - 1, by omega⟩
  have q0 : px_qk sh stA M0 M0 := ⟨hF, hG, eo_rf⟩
  refine vc_i (Nat.le_of_ble_eq_true rfl) ?_
  show px_R xs L d 117 (0, [.ref 0], [], (sh, M0)) (fun r h' => ∃ v M', r = some (.int (iI v)) ∧ h' = (sh, M') ∧ px_qk sh stA M0 M' ∧ v = sp_pasV (rc M0 3) ∧ rc M' 3 = sp_pasW lw (rc M0 3) ∧ (M' 0 13 = if v < 0 then v else 0) ∧ M' 205 = bmC (M0 205) v ∧ ctlR M' 27 (if 0 ≤ v then tpush tl (4, rc M0 3) else tl) ∧ fk 0 [13] M0 M')
  have hv4 : sp_pasV (rc M0 3) ≠ -4 := v4_pas hρ
  refine rr_aload_n pf_117_0 rfl ?_
  refine rr_getR pf_117_1 po_117 pg_8_39 rfl (ws_0 hW) (by decide) (wr_0_5 q0.1) ?_
  refine rr_aload_n pf_117_4 rfl ?_
  refine rr_getR pf_117_5 po_117 pg_8_21 rfl (ws_0 hW) (by decide) (wr_0_1 q0.1) ?_
  refine rr_getR pf_117_8 po_117 pg_8_131 rfl (ws_3 hW) (by decide) (wr_3_0 q0.1) ?_
  obtain ⟨M1, ⟨kq2, pnM1⟩, hcM1⟩ := ct_Trail_hold (xs := xs) (L := L) (d := d) (tb := 27) (nb := 4) (by omega) hW q0.1 q0.2.1 px_tr27 hctl.1 (show px_nv 4 by unfold px_nv; decide) (by omega)
  have hP := ctl_hold hctl kq2 pnM1
  have kk : px_qk sh (px_trA 27) M0 M1 := qk_mo kq2 (nv_27 (sl_lt _))
  have er : rc M1 3 = rc M0 3 := rc_eo kk.2.2 (fun a ha => by have := trA_iff.mp ha; omega)
  have hρ1 : sp_ok (rc M1 3) := by rw [er]; exact hρ
  have hlw1 : px_lw sh M1 3 lw := lw_eo hlw kk.2.2 (by decide +kernel) (by decide +kernel) (by decide +kernel)
  have q2 : px_qk sh stA M0 M1 := qk_mo kk (by decide +kernel)
  have rq3 := fk_q (fk_rf 0 [13] M0) kk (by decide +kernel)
  have e205a : M1 205 = M0 205 := kk.2.2 205 (by decide +kernel)
  refine rr_cV1 pf_117_11 po_117 pc_8_248 (ws_27 hW) po_100 (by decide) rfl hcM1 ?_
  refine rr_aload_n pf_117_14 rfl ?_
  refine rr_iconst pf_117_15 ?_
  refine rr_aload_n pf_117_16 rfl ?_
  refine rr_getR pf_117_17 po_117 pg_8_21 rfl (ws_0 hW) (by decide) (wr_0_1 q2.1) ?_
  obtain ⟨M4, ⟨kq5, prM4⟩, hcM4⟩ := ct_Church_passHour (xs := xs) (L := L) (d := d) (cb := 3) (by omega) hW q2.1 q2.2.1 px_ch3 hρ1 hlw1 
  rw [er] at prM4 hcM4
  have hvb : -3 ≤ sp_pasV (rc M0 3) ∧ sp_pasV (rc M0 3) ≤ 1000 := pasV_b hρ
  obtain ⟨vz, hvz⟩ : ∃ z, z = sp_pasV (rc M0 3) := ⟨_, rfl⟩
  rw [← hvz] at hvb hcM4
  have q5 := qk_trm q2 kq5 (by decide +kernel)
  have hP2 : ctlP M4 27 tl (rc M0 3) := by
    have z := ctP_eq hP (M2 := M4) (fun a h1 h2 => kq5.2.2 a (fun z => by
      simp only [List.mem_cons, List.not_mem_nil, or_false] at z
      omega))
    exact ⟨z.1, fun j hj => (z.2 j hj).trans (nn_rc (cb := 3) hj).symm⟩
  have rq6 := fk_q rq3 kq5 (by decide)
  have e205b : M4 205 = M0 205 := (kq5.2.2 205 (by decide)).trans e205a
  refine rr_cV0 pf_117_20 po_117 pc_8_267 (ws_3 hW) po_105 (by decide) rfl hcM4 ?_
  obtain ⟨r9, M7, ⟨kq8, pv_M7, p13_M7, p5_M7, pt_M7, pf_M7⟩, hcM7⟩ := ct_S_settle (xs := xs) (L := L) (d := d) (kd := 4) (a := vz) (tl := tl) (ρ := (rc M0 3)) (by omega) hW q5.1 q5.2.1 (by rw [e205b]; exact hrc) hP2 (by unfold rg; omega) ⟨by omega, by omega, by rw [hvz]; exact hv4⟩
  have q8 := qk_trm q5 kq8 (by decide +kernel)
  have rq10 := fk_tr rq6 pf_M7 (by decide)
  refine rr_cV2 pf_117_23 po_117 pc_8_255 (ws_0 hW) po_113 (by decide) rfl hcM7 ?_
  refine rr_iret pf_117_26 pt_117 ⟨_, M7, rfl, rfl, q8, (by rw [pv_M7]; exact hvz), (by rw [rc_eo kq8.2.2 (by decide)]; exact prM4), (by rw [pv_M7]; exact p13_M7), (by rw [pv_M7, p5_M7, e205b]), (by rw [pv_M7]; exact pt_M7), (rq10)⟩

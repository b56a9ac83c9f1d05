/-! the class's orders as a whole -/
def odC (ρ : Nat → Int) (tl : sp_T) (M : Nat → Nat → Int) (v : Int) (R : od_S ⊕ Nat) : Prop := match R with
  | .inl y => v = y.2.2.1 ∧ rc M 3 = y.1 ∧ ctlR M 27 y.2.1 ∧ M 98 0 = -1
  | .inr i => v = -3 ∧ rc M 3 = ρ ∧ ctlR M 27 tl ∧ M 98 0 = ((i : Nat) : Int)
theorem ct_finish_any {xs : Nat → Int} {L d : Nat} {sh : List (Nat × Nat)} {M0 : Nat → Nat → Int} (hd : 3 ≤ d) (hW : px_W0 <+: sh) (hF : px_Fx M0) (hG : px_RG sh M0) {ρ : Nat → Int} {lw : List sp_C} {tl : sp_T} {ol : List od_C} (h12 : ol.length ≤ 12) {c : Nat} {y : od_S} (hJ : orJ lw ol ρ tl M0 c y) (hc : c = ol.length) (hn99 : ∀ j, nj j → nn M0 99 j = ρ j) (hoth : ∀ j, ¬ nj j → rc M0 3 j = ρ j) (hctl : ctlR M0 103 tl) : ∃ v M, (px_qk sh fnA M0 M ∧ odC ρ tl M v (od_L lw ol 0 (ρ, tl, 0, -1)) ∧ ((0 ≤ v ∧ v ≤ 1000) ∨ v = -3)) ∧ px_Cl xs L d 108 [.ref 98] (sh, M0) (some (.int (iI v))) (sh, M) := by
  rcases hJ with ⟨h1, ⟨h2, h3, h4, h5, h6⟩, h7⟩ | ⟨i, h1, h2⟩
  · obtain ⟨v, M, ⟨k1, k2⟩, k3⟩ := ct_Runner_finish0 (xs := xs) (L := L) (d := d) (by omega) hW hF hG h1
    refine ⟨v, M, ⟨qk_mono k1 (fun a ha => absurd ha (by decide +revert)), ?_, ?_⟩, k3⟩
    · rw [h7, hc, List.drop_length, od_L]
      exact ⟨k2.trans h4, (rc_eo k1.2.2 (by decide)).trans h2, ctl_eq h3 (fun a _ _ => k1.2.2 a (List.not_mem_nil)), by rw [k1.2.2 98 (by decide)]; exact h1⟩
    · left
      have := h6.2.2.2.1
      rw [k2, h4]
      omega
  · obtain ⟨v, M, ⟨k1, k2, k3, k4⟩, k5⟩ := ct_Runner_finish1 (xs := xs) (L := L) (d := d) hd hW hF hG (by omega) hn99 hoth hctl
    refine ⟨v, M, ⟨k1, ?_, Or.inr k2⟩, k5⟩
    rw [h2]
    exact ⟨k2, k3, k4, by rw [k1.2.2 98 (by decide +kernel)]; exact h1⟩
theorem ct_S_ordersX {xs : Nat → Int} {L d : Nat} {sh : List (Nat × Nat)} {M0 : Nat → Nat → Int} (hd : 44 ≤ d) (hW : px_W0 <+: sh) (hF : px_Fx M0) (hG : px_RG sh M0)  {ρ : Nat → Int} (hR : rc M0 3 = ρ) (hρ : sp_ok ρ) {lw : List sp_C} (hlw : px_lw sh M0 3 lw) {tl : sp_T} (hctl : ctlR M0 27 tl) (h999 : ρ 5 ≤ 999) {E : rdE} (hE3 : E.tn ≤ 400) (hE1 : M0 199 = E.tb) (hE4 : ∀ j, 0 ≤ E.tb j ∧ E.tb j ≤ 255) (hod1 : E.od = 1) (h11 : M0 0 11 = ((E.tn : Nat) : Int)) (hA : coA (M0 202) (M0 203)) (hrc : ∀ j, j < 5 → 0 ≤ M0 205 j ∧ M0 205 j ≤ 1000000000) {R : cR} (hRd : R = cRead E (M0 202) (M0 203) (M0 204)) (hRf : R.1 = false) : ∃ v M, (px_qk sh [0, 98, 200, 201, 202, 203, 204, 205] M0 M ∧ (v = -6) ∧ (rc M 3 = ρ) ∧ (ctlR M 27 tl) ∧ (M 98 0 = -1) ∧ (M 200 1 = R.2.1.flt) ∧ (M 0 11 = 0) ∧ (M 0 13 = -6) ∧ (M 205 = bmC (M0 205) (-6)) ∧ (fk 0 [11, 13] M0 M) ∧ (M 202 = R.2.1.o ∧ M 203 = R.2.1.a)) ∧ px_Cl xs L d 92 [.ref 0] (sh, M0) (some (.int (iI v))) (sh, M) := by
  obtain ⟨d, rfl⟩ : ∃ e, d = e + 1 := ⟨d - 1, by omega⟩
  have q0 : px_qk sh [0, 98, 200, 201, 202, 203, 204, 205] M0 M0 := ⟨hF, hG, eo_rf⟩
  refine vc_i (Nat.le_of_ble_eq_true rfl) ?_
  show px_R xs L d 92 (0, [.ref 0, px_jk], [], (sh, M0)) (fun r h' => ∃ v M', r = some (.int (iI v)) ∧ h' = (sh, M') ∧ px_qk sh [0, 98, 200, 201, 202, 203, 204, 205] M0 M' ∧ v = -6 ∧ rc M' 3 = ρ ∧ ctlR M' 27 tl ∧ M' 98 0 = -1 ∧ M' 200 1 = R.2.1.flt ∧ M' 0 11 = 0 ∧ M' 0 13 = -6 ∧ M' 205 = bmC (M0 205) (-6) ∧ fk 0 [11, 13] M0 M' ∧ (M' 202 = R.2.1.o ∧ M' 203 = R.2.1.a))
  refine rr_aload_n pf_92_0 rfl ?_
  refine rr_getR pf_92_1 po_92 pg_8_48 rfl (ws_0 hW) (by decide) (wr_0_6 q0.1) ?_
  refine rr_iconst pf_92_4 ?_
  refine vr_putI hW q0 pf_92_5 po_92 pg_8_223 (Or.inl rfl) rfl (ws_98 hW) (by decide) (by unfold rg; omega) (by decide +kernel) (fun M1 eM1 q2 => ?_)
  refine rr_aload_n pf_92_8 rfl ?_
  refine rr_getR pf_92_9 po_92 pg_8_70 rfl (ws_0 hW) (by decide) (wr_0_9 q2.1) ?_
  refine rr_aload_n pf_92_12 rfl ?_
  obtain ⟨tv, M3, ⟨kq4, ptv, p11, ptf⟩, hcM3⟩ := ct_S_takeTape (xs := xs) (L := L) (d := d) (by omega) hW q2.1 q2.2.1
  rw [show tv = ((E.tn : Nat) : Int) by rw [ptv, eM1, ask_ne (by decide)]; exact h11] at hcM3
  have g199 : M3 199 = M0 199 := by rw [kq4.2.2 199 (by decide), eM1, ask_ne (by decide)]
  have g202 : M3 202 = M0 202 := by rw [kq4.2.2 202 (by decide), eM1, ask_ne (by decide)]
  have g203 : M3 203 = M0 203 := by rw [kq4.2.2 203 (by decide), eM1, ask_ne (by decide)]
  have g204 : M3 204 = M0 204 := by rw [kq4.2.2 204 (by decide), eM1, ask_ne (by decide)]
  have g205 : M3 205 = M0 205 := by rw [kq4.2.2 205 (by decide), eM1, ask_ne (by decide)]
  have g98 : M3 98 0 = -1 := by rw [kq4.2.2 98 (by decide), eM1, up_s]
  have g0 : ∀ j, j ≠ 11 → M3 0 j = M0 0 j := fun j hj => by rw [ptf j (by simp only [List.mem_cons, List.not_mem_nil, or_false]; exact hj), eM1, ask_ne (by decide)]
  have q4 := qk_trm q2 kq4 (by decide +kernel)
  refine rr_cV0 pf_92_13 po_92 pc_8_198 (ws_0 hW) po_56 (by decide) rfl hcM3 ?_
  refine rr_iconst pf_92_16 ?_
  obtain ⟨M5, ⟨kq6, pS, pg, pc12⟩, hcM5⟩ := ct_CS_reads (xs := xs) (L := L) (d := d) (E := E) (asd := 1) (by omega) hW q4.1 q4.2.1 hE3 (g199.trans hE1) hE4 (Or.inr hod1) hod1.symm
  rw [g202, g203, g204, ← hRd] at pS pg pc12 hcM5
  obtain ⟨yb, hyb⟩ : ∃ y, y = bI (R.1 = true) := ⟨_, rfl⟩
  rw [← hyb] at hcM5
  have hy01 : 0 ≤ yb ∧ yb ≤ 1 := by rw [hyb]; exact bI_rg _
  have hyv : yb = 0 := by rw [hyb, bI_f (by rw [hRf]; decide)]
  have j205 : M5 205 = M0 205 := (kq6.2.2 205 (by decide)).trans g205
  have j98 : M5 98 0 = -1 := by rw [kq6.2.2 98 (by decide)]; exact g98
  have j11 : M5 0 11 = 0 := by rw [kq6.2.2 0 (by decide)]; exact p11
  have j0 : ∀ j, j ≠ 11 → M5 0 j = M0 0 j := fun j hj => by rw [kq6.2.2 0 (by decide)]; exact g0 j hj
  have q6 := qk_trm q4 kq6 (by decide +kernel)
  refine rr_cV2 pf_92_17 po_92 pc_8_205 (ws_200 hW) po_57 (by decide) rfl hcM5 ?_
  refine rr_if_ne 30 pf_92_20 (by decide) (by unfold rg; omega) (fun c7 => ?_) (fun c7 => ?_)
  · exfalso; omega
  · refine rr_aload_n pf_92_23 rfl ?_
    refine rr_bipush pf_92_24 (by decide) ?_
    obtain ⟨rv, M8, ⟨kq9, prv, pr13, pr205, prf⟩, hcM8⟩ := ct_S_refuse (xs := xs) (L := L) (d := d) (u := -6) (by omega) hW q6.1 q6.2.1 (by omega) (by rw [j205]; exact hrc)
    have q9 := qk_trm q6 kq9 (by decide +kernel)
    have hrvr : rg rv := by rw [prv]; unfold rg; omega
    refine rr_cV1 pf_92_26 po_92 pc_8_99 (ws_0 hW) po_13 (by decide) rfl hcM8 ?_
    refine rr_iret pf_92_29 pt_92 ⟨_, M8, rfl, rfl, q9, (prv), ((rc_eo q9.2.2 (by decide)).trans hR), (by exact ctl_eq hctl (fun a h1 h2 => q9.2.2 a (by simp only [List.mem_cons, List.not_mem_nil, or_false]; omega))), (by rw [kq9.2.2 98 (by decide)]; exact j98), (by rw [kq9.2.2 200 (by decide)]; exact pS.2.2.2.2.2.2.2.2.1), (by rw [prf 11 (by decide)]; exact j11), (pr13), (by rw [pr205, j205]), (by intro j hj; simp only [List.mem_cons, List.not_mem_nil, or_false, not_or] at hj; rw [prf j (by simp only [List.mem_cons, List.not_mem_nil, or_false]; exact hj.2)]; exact j0 j hj.1), (by rw [kq9.2.2 202 (by decide), kq9.2.2 203 (by decide)]; exact ⟨pS.2.2.2.2.2.1, pS.2.2.2.2.2.2.1⟩)⟩

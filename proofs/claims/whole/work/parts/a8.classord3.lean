/-! the class's orders, run -/
/-- the law in force is a text of its own -/
def px_lwT (sh : List (Nat × Nat)) (M : Nat → Nat → Int) (cb : Nat) (lw : List sp_C) : Prop := ((M cb 10 = -1 ∧ lw = []) ∨ ∃ n t N C : Nat, M cb 10 = (n : Int) ∧ (n : Int) < M cb 9 ∧ n < 6 ∧ M (cb + 8) n = (t : Int) ∧ 264 ≤ t ∧ px_den sh M t N C lw) ∧ sp_rs lw
theorem lwT_lw {sh : List (Nat × Nat)} {M : Nat → Nat → Int} {cb : Nat} {lw : List sp_C} (h : px_lwT sh M cb lw) : px_lw sh M cb lw := by
  refine ⟨?_, h.2⟩
  rcases h.1 with z | ⟨n, t, N, C, h1, h2, h3, h4, h5, h6⟩
  · exact Or.inl z
  · exact Or.inr ⟨n, t, N, C, h1, h2, h3, h4, h6⟩
theorem lwT_eo {sh : List (Nat × Nat)} {M M2 : Nat → Nat → Int} {cb : Nat} {lw : List sp_C} {A : List Nat} (h : px_lwT sh M cb lw) (he : px_eo A M M2) (h1 : cb ∉ A) (h2 : cb + 8 ∉ A) (hA : ∀ a ∈ A, a < 264) : px_lwT sh M2 cb lw := by
  refine ⟨?_, h.2⟩
  rcases h.1 with ⟨q1, q2⟩ | ⟨n, t, N, C, q1, q2, q3, q4, q5, q6⟩
  · exact Or.inl ⟨by rw [he cb h1]; exact q1, q2⟩
  · exact Or.inr ⟨n, t, N, C, by rw [he cb h1]; exact q1, by rw [he cb h1]; exact q2, q3, by rw [he (cb + 8) h2]; exact q4, q5, den_eq q6 (fun i hi => he _ (fun q => by have := hA _ q; omega))⟩
def orI (sh : List (Nat × Nat)) (lw : List sp_C) (ol : List od_C) (ρ : Nat → Int) (tl : sp_T) (R : cR) (B Z : Nat → Int) (M : Nat → Nat → Int) (c : Nat) (y : od_S) : Prop := orJ lw ol ρ tl M c y ∧ px_lwT sh M 3 lw ∧ (M 202 = R.2.1.o ∧ M 203 = R.2.1.a ∧ M 204 = R.2.2.2) ∧ (M 201 5 = R.2.1.ab ∧ M 201 4 = ((ol.length : Nat) : Int)) ∧ (∀ j, nj j → nn M 99 j = ρ j) ∧ (∀ j, ¬ nj j → rc M 3 j = ρ j) ∧ ctlR M 103 tl ∧ (M 0 11 = 0 ∧ ∀ j, j ≠ 11 → M 0 j = Z j) ∧ M 205 = B ∧ M 200 1 = R.2.1.flt
theorem rnA_in {a : Nat} (h : a ∈ rnA) : a = 2 ∨ (4 ≤ a ∧ a ≤ 7) ∨ a = 12 ∨ a = 13 ∨ (27 ≤ a ∧ a ≤ 98) ∨ a = 174 := by
  rcases List.mem_append.mp h with z | z
  · simp only [List.mem_cons, List.not_mem_nil, or_false] at z; omega
  · have := trA_iff.mp z; omega
theorem bgA_in {a : Nat} (h : a ∈ bgA) : 98 ≤ a ∧ a ≤ 173 := by
  rcases List.mem_append.mp h with z | z
  · simp only [List.mem_cons, List.not_mem_nil, or_false] at z; omega
  · have := trA_iff.mp z; omega
theorem fnA_in {a : Nat} (h : a ∈ fnA) : (4 ≤ a ∧ a ≤ 7) ∨ (27 ≤ a ∧ a ≤ 97) := by
  rcases List.mem_append.mp h with z | z
  · simp only [List.mem_cons, List.not_mem_nil, or_false] at z; omega
  · have := trA_iff.mp z; omega
theorem orI_st {sh : List (Nat × Nat)} {lw : List sp_C} {ol : List od_C} {ρ : Nat → Int} {tl : sp_T} {R : cR} {B Z : Nat → Int} {M M2 : Nat → Nat → Int} {c : Nat} {y y2 : od_S} (h : orI sh lw ol ρ tl R B Z M c y) (k : px_qk sh rnA M M2) (hJ : orJ lw ol ρ tl M2 (c + 1) y2) : orI sh lw ol ρ tl R B Z M2 (c + 1) y2 := by
  obtain ⟨-, h2, ⟨h3, h4, h5⟩, ⟨h6, h7⟩, h8, h9, h10, h11, h12, h13⟩ := h
  have f : ∀ a, (a = 0 ∨ a = 3 ∨ (8 ≤ a ∧ a ≤ 11) ∨ (99 ≤ a ∧ a ≤ 173) ∨ (175 ≤ a)) → M2 a = M a := fun a ha => k.2.2 a (fun z => by have := rnA_in z; omega)
  refine ⟨hJ, lwT_eo h2 k.2.2 (fun z => by have := rnA_in z; omega) (fun z => by have := rnA_in z; omega) (fun a z => by have := rnA_in z; omega), ⟨(f 202 (by omega)).trans h3, (f 203 (by omega)).trans h4, (f 204 (by omega)).trans h5⟩, ⟨by rw [f 201 (by omega)]; exact h6, by rw [f 201 (by omega)]; exact h7⟩, fun j hj => ?_, fun j hj => ?_, ctl_eq h10 (fun a h1 h2 => f a (by omega)), by rw [f 0 (by omega)]; exact h11, (f 205 (by omega)).trans h12, by rw [f 200 (by omega)]; exact h13⟩
  · rw [nn_eq (M := M) (fun i hi => f _ (by omega)) j]; exact h8 j hj
  · rw [rc_nv (f 3 (by omega)) (f 8 (by omega)) (f 9 (by omega)) (f 10 (by omega)) hj]; exact h9 j hj
theorem odC_eq {ρ : Nat → Int} {tl : sp_T} {M M2 : Nat → Nat → Int} {v : Int} {R : od_S ⊕ Nat} (h : odC ρ tl M v R) (e : ∀ a, (1 ≤ a ∧ a ≤ 204) → M2 a = M a) : odC ρ tl M2 v R := by
  cases R with
  | inl y =>
    obtain ⟨h1, h2, h3, h4⟩ := h
    exact ⟨h1, (rc_eq (fun i hi => e _ (by omega))).trans h2, ctl_eq h3 (fun a _ _ => e a (by omega)), by rw [e 98 (by omega)]; exact h4⟩
  | inr i =>
    obtain ⟨h1, h2, h3, h4⟩ := h
    exact ⟨h1, (rc_eq (fun i hi => e _ (by omega))).trans h2, ctl_eq h3 (fun a _ _ => e a (by omega)), by rw [e 98 (by omega)]; exact h4⟩
abbrev orA : List Nat := [0, 2, 4, 5, 6, 7, 12, 13, 174, 200, 201, 202, 203, 204, 205] ++ (px_trA 27 ++ (px_trA 98 ++ px_trA 103))
theorem lp_S_orders0_39 {xs : Nat → Int} {L d : Nat} {sh : List (Nat × Nat)} (hd : 43 ≤ d) (hW : px_W0 <+: sh) {M0 : Nat → Nat → Int}  {ρ : Nat → Int} (hR : rc M0 3 = ρ) (hρ : sp_ok ρ) {lw : List sp_C} (hlw : px_lwT sh M0 3 lw) {tl : sp_T} (hctl : ctlR M0 27 tl) (h999 : ρ 5 ≤ 999) {E : rdE} (hE3 : E.tn ≤ 400) (hE1 : M0 199 = E.tb) (hE4 : ∀ j, 0 ≤ E.tb j ∧ E.tb j ≤ 255) (hod1 : E.od = 1) (h11 : M0 0 11 = ((E.tn : Nat) : Int)) (hA : coA (M0 202) (M0 203)) (hrc : ∀ j, j < 5 → 0 ≤ M0 205 j ∧ M0 205 j ≤ 1000000000) {R : cR} (hRd : R = cRead E (M0 202) (M0 203) (M0 204)) (hRt : R.1 = true) {ol : List od_C} (hol : R.2.2.1 = ol.length ∧ ol.length ≤ 12 ∧ ∀ c x, ol[c]? = some x → co_cl R.2.1.o R.2.1.a R.2.2.2 R.2.1.ab c x) (hAr : coA R.2.1.o R.2.1.a) (hab01 : R.2.1.ab = 0 ∨ R.2.1.ab = 1) {Q : Option Value → px_H → Prop} (kx : ∀ (c : Nat) (y : od_S) (M : Nat → Nat → Int), px_qk sh orA M0 M → (c = ol.length) → (orI sh lw ol ρ tl R (M0 205) (M0 0) M c y) → px_R xs L d 92 (74, [.ref 0, .int (iI (((c : Nat) : Int)))], [], (sh, M)) Q)  : ∀ (mz : Nat) (c : Nat) (y : od_S) (M : Nat → Nat → Int), ol.length - c = mz → px_qk sh orA M0 M → (c ≤ ol.length) → (orI sh lw ol ρ tl R (M0 205) (M0 0) M c y) → px_R xs L d 92 (39, [.ref 0, .int (iI (((c : Nat) : Int)))], [], (sh, M)) Q := by
  intro mz
  induction mz using Nat.strongRecOn with
  | _ mz ih =>
    intro c y M hm hq hc hI
    refine rr_iload_n pf_92_39 rfl ?_
    refine rr_aload_n pf_92_40 rfl ?_
    refine rr_getR pf_92_41 po_92 pg_8_70 rfl (ws_0 hW) (by decide) (wr_0_9 hq.1) ?_
    refine rr_getR pf_92_44 po_92 pg_8_213 rfl (ws_200 hW) (by decide) (wr_200_0 hq.1) ?_
    refine vr_getI hq pf_92_47 po_92 pg_8_229 rfl (ws_201 hW) (by decide) (fun x1 hx1 rx1 => ?_)
    rw [hI.2.2.2.1.2] at hx1
    refine rr_icmp_ge 74 pf_92_50 (by decide) (by unfold rg; omega) rx1 (fun c2 => ?_) (fun c2 => ?_)
    · exact kx c y M hq (by have h4b := hI.2.2.2.1.2; omega) (hI)
    · refine rr_aload_n pf_92_53 rfl ?_
      refine rr_getR pf_92_54 po_92 pg_8_48 rfl (ws_0 hW) (by decide) (wr_0_6 hq.1) ?_
      refine rr_aload_n pf_92_57 rfl ?_
      refine rr_getR pf_92_58 po_92 pg_8_70 rfl (ws_0 hW) (by decide) (wr_0_9 hq.1) ?_
      refine rr_getR pf_92_61 po_92 pg_8_213 rfl (ws_200 hW) (by decide) (wr_200_0 hq.1) ?_
      refine rr_iload_n pf_92_64 rfl ?_
      obtain ⟨hJ0, hl0, ⟨h202, h203, h204⟩, ⟨h5b, h4b⟩, _⟩ := id hI
      obtain ⟨M3, ⟨kq4, ⟨y2, hy2⟩, kf⟩, hcM3⟩ := ct_run_any (xs := xs) (L := L) (d := d) (by omega) hW hq.1 hq.2.1 (lwT_lw hl0) hJ0 (by omega) hol.2.1 (by rw [h202, h203]; exact hAr) h5b hab01 (by rw [h202, h203, h204]; exact hol.2.2)
      have hI2 := orI_st hI kq4 hy2
      have q4 := qk_trm hq kq4 (by decide +kernel)
      refine rr_cV2 pf_92_65 po_92 pc_8_232 (ws_98 hW) po_96 (by decide) rfl hcM3 ?_
      refine rr_iinc pf_92_68 rfl (fun y => [.ref 0, .int (iI (y))]) (fun _ => rfl) (fun y5 hy5 => ?_)
      refine rr_goto 39 pf_92_71 (by decide) ?_
      obtain ⟨nz6, hnz6, rfl⟩ : ∃ zz : Nat, zz = 1 + c ∧ y5 = ((zz : Nat) : Int) := ⟨1 + c, rfl, by omega⟩
      exact ih _ (by omega) nz6 y2 M3 rfl q4 (by omega) (by rw [show nz6 = c + 1 by omega]; exact hI2)
theorem ct_S_orders0 {xs : Nat → Int} {L d : Nat} {sh : List (Nat × Nat)} {M0 : Nat → Nat → Int} (hd : 44 ≤ d) (hW : px_W0 <+: sh) (hF : px_Fx M0) (hG : px_RG sh M0)  {ρ : Nat → Int} (hR : rc M0 3 = ρ) (hρ : sp_ok ρ) {lw : List sp_C} (hlw : px_lwT sh M0 3 lw) {tl : sp_T} (hctl : ctlR M0 27 tl) (h999 : ρ 5 ≤ 999) {E : rdE} (hE3 : E.tn ≤ 400) (hE1 : M0 199 = E.tb) (hE4 : ∀ j, 0 ≤ E.tb j ∧ E.tb j ≤ 255) (hod1 : E.od = 1) (h11 : M0 0 11 = ((E.tn : Nat) : Int)) (hA : coA (M0 202) (M0 203)) (hrc : ∀ j, j < 5 → 0 ≤ M0 205 j ∧ M0 205 j ≤ 1000000000) {R : cR} (hRd : R = cRead E (M0 202) (M0 203) (M0 204)) (hRt : R.1 = true) {ol : List od_C} (hol : R.2.2.1 = ol.length ∧ ol.length ≤ 12 ∧ ∀ c x, ol[c]? = some x → co_cl R.2.1.o R.2.1.a R.2.2.2 R.2.1.ab c x) : ∃ v M, (px_qk sh orA M0 M ∧ (odC ρ tl M v (od_L lw ol 0 (ρ, tl, 0, -1))) ∧ (M 200 1 = R.2.1.flt) ∧ (M 0 11 = 0) ∧ (M 0 13 = if v < 0 then v else 0) ∧ (M 205 = if v < 0 then bmC (M0 205) v else M0 205) ∧ (fk 0 [11, 13] M0 M) ∧ (M 202 = R.2.1.o ∧ M 203 = R.2.1.a)) ∧ px_Cl xs L d 92 [.ref 0] (sh, M0) (some (.int (iI v))) (sh, M) := by
  obtain ⟨d, rfl⟩ : ∃ e, d = e + 1 := ⟨d - 1, by omega⟩
  have q0 : px_qk sh orA M0 M0 := ⟨hF, hG, eo_rf⟩
  refine vc_i (Nat.le_of_ble_eq_true rfl) ?_
  show px_R xs L d 92 (0, [.ref 0, px_jk], [], (sh, M0)) (fun r h' => ∃ v M', r = some (.int (iI v)) ∧ h' = (sh, M') ∧ px_qk sh orA M0 M' ∧ odC ρ tl M' v (od_L lw ol 0 (ρ, tl, 0, -1)) ∧ M' 200 1 = R.2.1.flt ∧ M' 0 11 = 0 ∧ (M' 0 13 = if v < 0 then v else 0) ∧ (M' 205 = if v < 0 then bmC (M0 205) v else M0 205) ∧ fk 0 [11, 13] M0 M' ∧ (M' 202 = R.2.1.o ∧ M' 203 = R.2.1.a))
  refine rr_aload_n pf_92_0 rfl ?_
  refine rr_getR pf_92_1 po_92 pg_8_48 rfl (ws_0 hW) (by decide) (wr_0_6 q0.1) ?_
  refine rr_iconst pf_92_4 ?_
  refine vr_putI hW q0 pf_92_5 po_92 pg_8_223 (Or.inl rfl) rfl (ws_98 hW) (by decide) (by unfold rg; omega) (by decide +kernel) (fun M1 eM1 q2 => ?_)
  refine rr_aload_n pf_92_8 rfl ?_
  refine rr_getR pf_92_9 po_92 pg_8_70 rfl (ws_0 hW) (by decide) (wr_0_9 q2.1) ?_
  refine rr_aload_n pf_92_12 rfl ?_
  obtain ⟨tv, M3, ⟨kq4, ptv, p11, ptf⟩, hcM3⟩ := ct_S_takeTape (xs := xs) (L := L) (d := d) (by omega) hW q2.1 q2.2.1
  rw [show tv = ((E.tn : Nat) : Int) by rw [ptv, eM1, ask_ne (by decide)]; exact h11] at hcM3
  have g199 : M3 199 = M0 199 := by rw [kq4.2.2 199 (by decide), eM1, ask_ne (by decide)]
  have g202 : M3 202 = M0 202 := by rw [kq4.2.2 202 (by decide), eM1, ask_ne (by decide)]
  have g203 : M3 203 = M0 203 := by rw [kq4.2.2 203 (by decide), eM1, ask_ne (by decide)]
  have g204 : M3 204 = M0 204 := by rw [kq4.2.2 204 (by decide), eM1, ask_ne (by decide)]
  have g205 : M3 205 = M0 205 := by rw [kq4.2.2 205 (by decide), eM1, ask_ne (by decide)]
  have g98 : M3 98 0 = -1 := by rw [kq4.2.2 98 (by decide), eM1, up_s]
  have g0 : ∀ j, j ≠ 11 → M3 0 j = M0 0 j := fun j hj => by rw [ptf j (by simp only [List.mem_cons, List.not_mem_nil, or_false]; exact hj), eM1, ask_ne (by decide)]
  have q4 := qk_trm q2 kq4 (by decide +kernel)
  have f1 : ∀ a, a ≠ 0 → a ≠ 98 → M3 a = M0 a := fun a h1 h2 => by rw [kq4.2.2 a (by simp only [List.mem_cons, List.not_mem_nil, or_false]; exact h1), eM1, ask_ne h2]
  refine rr_cV0 pf_92_13 po_92 pc_8_198 (ws_0 hW) po_56 (by decide) rfl hcM3 ?_
  refine rr_iconst pf_92_16 ?_
  obtain ⟨M5, ⟨kq6, pS, pg, pc12⟩, hcM5⟩ := ct_CS_reads (xs := xs) (L := L) (d := d) (E := E) (asd := 1) (by omega) hW q4.1 q4.2.1 hE3 (g199.trans hE1) hE4 (Or.inr hod1) hod1.symm
  rw [g202, g203, g204, ← hRd] at pS pg pc12 hcM5
  obtain ⟨yb, hyb⟩ : ∃ y, y = bI (R.1 = true) := ⟨_, rfl⟩
  rw [← hyb] at hcM5
  have hy01 : 0 ≤ yb ∧ yb ≤ 1 := by rw [hyb]; exact bI_rg _
  have hyv : yb = 1 := by rw [hyb, bI_t hRt]
  have j205 : M5 205 = M0 205 := (kq6.2.2 205 (by decide)).trans g205
  have j98 : M5 98 0 = -1 := by rw [kq6.2.2 98 (by decide)]; exact g98
  have j11 : M5 0 11 = 0 := by rw [kq6.2.2 0 (by decide)]; exact p11
  have j0 : ∀ j, j ≠ 11 → M5 0 j = M0 0 j := fun j hj => by rw [kq6.2.2 0 (by decide)]; exact g0 j hj
  have q6 := qk_trm q4 kq6 (by decide +kernel)
  have f2 : ∀ a, a ≠ 0 → a ≠ 98 → (a < 200 ∨ 204 < a) → M5 a = M0 a := fun a h1 h2 h3 => by rw [kq6.2.2 a (by simp only [List.mem_cons, List.not_mem_nil, or_false]; omega)]; exact f1 a h1 h2
  have hR2 : rc M5 3 = ρ := (rc_eo (A := [0, 98, 200, 201, 202, 203, 204]) (fun a ha => by simp only [List.mem_cons, List.not_mem_nil, or_false] at ha; exact f2 a (by omega) (by omega) (by omega)) (by decide)).trans hR
  have hctl2 : ctlR M5 27 tl := ctl_eq hctl (fun a h1 h2 => f2 a (by omega) (by omega) (by omega))
  have hlw2 : px_lwT sh M5 3 lw := lwT_eo (A := [0, 98, 200, 201, 202, 203, 204]) hlw (fun a ha => by simp only [List.mem_cons, List.not_mem_nil, or_false] at ha; exact f2 a (by omega) (by omega) (by omega)) (by decide) (by decide) (by decide)
  have hAr : coA (M5 202) (M5 203) := by rw [pS.2.2.2.2.2.1, pS.2.2.2.2.2.2.1, hRd]; exact (kA_read hA).1
  have hab01 : R.2.1.ab = 0 ∨ R.2.1.ab = 1 := pS.2.2.2.2.2.2.2.2.2.2.2.2
  rw [pS.2.2.2.2.2.1, pS.2.2.2.2.2.2.1] at hAr
  refine rr_cV2 pf_92_17 po_92 pc_8_205 (ws_200 hW) po_57 (by decide) rfl hcM5 ?_
  refine rr_if_ne 30 pf_92_20 (by decide) (by unfold rg; omega) (fun c7 => ?_) (fun c7 => ?_)
  · refine rr_aload_n pf_92_30 rfl ?_
    refine rr_getR pf_92_31 po_92 pg_8_48 rfl (ws_0 hW) (by decide) (wr_0_6 q6.1) ?_
    obtain ⟨M8, ⟨kq9, b0, b7, b8, bn, bt, bf⟩, hcM8⟩ := ct_Runner_begin (xs := xs) (L := L) (d := d) (by omega) hW q6.1 q6.2.1 hR2 hρ hctl2
    have f3 : ∀ a, (a < 98 ∨ 173 < a) → M8 a = M5 a := fun a ha => kq9.2.2 a (fun z => by have := bgA_in z; omega)
    have hI0 : orI sh lw ol ρ tl R (M0 205) (M0 0) M8 0 (ρ, tl, 0, -1) := by
      refine ⟨Or.inl ⟨b0, ⟨?_, ?_, b7, b8, hρ, h999, fun j _ => rfl, by show (0 : Int) ≤ 0 ∧ (0 : Int) ≤ ((20 * 0 : Nat) : Int); omega, by show (-1 : Int) ≤ -1 ∧ (-1 : Int) ≤ 1000; omega⟩, rfl⟩, lwT_eo hlw2 kq9.2.2 (fun z => by have := bgA_in z; omega) (fun z => by have := bgA_in z; omega) (fun a z => by have := bgA_in z; omega), ⟨?_, ?_, ?_⟩, ⟨?_, ?_⟩, bn, ?_, bt, ?_, ?_, ?_⟩
      · exact (rc_eo kq9.2.2 (fun a z => by have := bgA_in z; omega)).trans hR2
      · exact ctl_eq hctl2 (fun a h1 h2 => f3 a (by omega))
      · rw [f3 202 (by omega)]; exact pS.2.2.2.2.2.1
      · rw [f3 203 (by omega)]; exact pS.2.2.2.2.2.2.1
      · rw [f3 204 (by omega)]; exact pg
      · rw [f3 201 (by omega)]; exact pS.2.2.2.2.2.2.2.1
      · rw [f3 201 (by omega), ← hol.1]; exact pS.2.2.2.2.2.2.2.2.2.2.2.1
      · intro j hj; rw [rc_nv (f3 3 (by omega)) (f3 8 (by omega)) (f3 9 (by omega)) (f3 10 (by omega)) hj, hR2]
      · rw [f3 0 (by omega)]; exact ⟨j11, j0⟩
      · rw [f3 205 (by omega)]; exact j205
      · rw [f3 200 (by omega)]; exact pS.2.2.2.2.2.2.2.2.1
    have q9 := qk_trm q6 kq9 (by decide +kernel)
    refine rr_cV0 pf_92_34 po_92 pc_8_226 (ws_98 hW) po_93 (by decide) rfl hcM8 ?_
    refine rr_iconst pf_92_37 ?_
    refine rr_istore_n pf_92_38 (fun y => [.ref 0, .int (iI (y))]) (Nat.le_of_ble_eq_true rfl) (fun _ => rfl) (fun y10 hy10 => ?_)
    obtain ⟨nz11, hnz11, rfl⟩ : ∃ zz : Nat, zz = 0 ∧ y10 = ((zz : Nat) : Int) := ⟨0, rfl, by omega⟩
    refine lp_S_orders0_39 (xs := xs) (L := L) (d := d) (by omega) hW hR hρ hlw hctl h999 hE3 hE1 hE4 hod1 h11 hA hrc hRd hRt hol hAr hab01 (fun c_12 y_13  M14 q15 xc_M14 xI_M14 => ?_) _ nz11 (ρ, tl, 0, -1) M8 rfl q9 (by omega) (by rw [show nz11 = 0 by omega]; exact hI0)
    refine rr_aload_n pf_92_74 rfl ?_
    refine rr_getR pf_92_75 po_92 pg_8_48 rfl (ws_0 hW) (by decide) (wr_0_6 q15.1) ?_
    obtain ⟨eJ, el, e202, -, e99, eo_, ec, ⟨e11, e0⟩, e205, e200⟩ := xI_M14
    obtain ⟨fv, M16, ⟨kq17, fP, fB_⟩, hcM16⟩ := ct_finish_any (xs := xs) (L := L) (d := d) (by omega) hW q15.1 q15.2.1 hol.2.1 eJ xc_M14 e99 eo_ ec
    have f4 : ∀ a, (a < 4 ∨ 97 < a) → M16 a = M14 a := fun a ha => kq17.2.2 a (fun z => by have := fnA_in z; omega)
    have hfr : rg fv := by unfold rg; omega
    have q17 := qk_trm q15 kq17 (by decide +kernel)
    refine rr_cV0 pf_92_78 po_92 pc_8_236 (ws_98 hW) po_108 (by decide) rfl hcM16 ?_
    refine rr_istore_n pf_92_81 (fun y => [.ref 0, .int (iI (y))]) (Nat.le_of_ble_eq_true rfl) (fun _ => rfl) (fun y18 hy18 => ?_)
    refine rr_iload_n pf_92_82 rfl ?_
    refine rr_if_ge 94 pf_92_83 (by decide) (by unfold rg; omega) (fun c19 => ?_) (fun c19 => ?_)
    · refine rr_aload_n pf_92_94 rfl ?_
      refine rr_iload_n pf_92_95 rfl ?_
      obtain ⟨rv, M20, ⟨kq21, prv, pr13, prf⟩, hcM20⟩ := ct_S_accept (xs := xs) (L := L) (d := d) (u := fv) (by omega) hW q17.1 q17.2.1 hfr
      rw [show fv = y18 by omega] at hcM20
      have q21 := qk_trm q17 kq21 (by decide +kernel)
      have hrvr : rg rv := by rw [prv]; exact hfr
      refine rr_cV1 pf_92_96 po_92 pc_8_115 (ws_0 hW) po_15 (by decide) rfl hcM20 ?_
      refine rr_iret pf_92_99 pt_92 ⟨_, M20, rfl, rfl, q21, (by rw [prv]; exact odC_eq (fP) (fun a ha => kq21.2.2 a (by simp only [List.mem_cons, List.not_mem_nil, or_false]; omega))), (by rw [kq21.2.2 200 (by decide), f4 200 (by omega)]; exact e200), (by rw [prf 11 (by decide), f4 0 (by omega)]; exact e11), (by rw [pr13, prv, if_neg (by omega)]), (by rw [prv, if_neg (by omega), kq21.2.2 205 (by decide), f4 205 (by omega)]; exact e205), (by intro j hj; simp only [List.mem_cons, List.not_mem_nil, or_false, not_or] at hj; rw [prf j (by simp only [List.mem_cons, List.not_mem_nil, or_false]; exact hj.2), f4 0 (by omega)]; exact e0 j hj.1), (by rw [kq21.2.2 202 (by decide), kq21.2.2 203 (by decide), f4 202 (by omega), f4 203 (by omega)]; exact ⟨e202.1, e202.2.1⟩)⟩
    · refine rr_aload_n pf_92_86 rfl ?_
      refine rr_iload_n pf_92_87 rfl ?_
      have g205 : M16 205 = M0 205 := by rw [f4 205 (by omega)]; exact e205
      obtain ⟨rv, M22, ⟨kq23, prv, pr13, pr205, prf⟩, hcM22⟩ := ct_S_refuse (xs := xs) (L := L) (d := d) (u := fv) (by omega) hW q17.1 q17.2.1 (by omega) (by rw [g205]; exact hrc)
      rw [show fv = y18 by omega] at hcM22
      have q23 := qk_trm q17 kq23 (by decide +kernel)
      have hrvr : rg rv := by rw [prv]; exact hfr
      refine rr_cV1 pf_92_88 po_92 pc_8_99 (ws_0 hW) po_13 (by decide) rfl hcM22 ?_
      refine rr_goto 99 pf_92_91 (by decide) ?_
      refine rr_iret pf_92_99 pt_92 ⟨_, M22, rfl, rfl, q23, (by rw [prv]; exact odC_eq (fP) (fun a ha => kq23.2.2 a (by simp only [List.mem_cons, List.not_mem_nil, or_false]; omega))), (by rw [kq23.2.2 200 (by decide), f4 200 (by omega)]; exact e200), (by rw [prf 11 (by decide), f4 0 (by omega)]; exact e11), (by rw [pr13, prv, if_pos (by omega)]), (by rw [prv, if_pos (by omega), pr205, g205]), (by intro j hj; simp only [List.mem_cons, List.not_mem_nil, or_false, not_or] at hj; rw [prf j (by simp only [List.mem_cons, List.not_mem_nil, or_false]; exact hj.2), f4 0 (by omega)]; exact e0 j hj.1), (by rw [kq23.2.2 202 (by decide), kq23.2.2 203 (by decide), f4 202 (by omega), f4 203 (by omega)]; exact ⟨e202.1, e202.2.1⟩)⟩
  · exfalso; omega

/-! the class's reader: a clause -/
def bgn (p : Nat) (k : Int) (g : Nat → Int) : Nat → Int := fun j => if j = p then k else if j = p + 1 then 1 else if p + 2 ≤ j ∧ j < p + 8 then 0 else g j
abbrev cQ : Type := Bool × cS × (Nat → Int)
def sAs (E : rdE) (p : Nat) (s : cS) (g : Nat → Int) : cQ := ((cSm E 8 s).1, (cSm E 8 s).2, fup (fup g p ((s.sz : Nat) : Int)) (p + 1) (((cSm E 8 s).2.sz : Nat) : Int))
def ofn (E : rdE) (p : Nat) (s : cS) (g : Nat → Int) : cQ := if cK E (cnx E s) = 2 ∧ 1 ≤ cW E (cnx E s) ∧ cW E (cnx E s) ≤ 20 then (true, cnx E (cnx E s), fup g p (cW E (cnx E s))) else (false, cfl E (cnx E s), g)
def cIf (E : rdE) (p : Nat) (q : cQ) : cQ := if q.1 = true ∧ cwd E 9 q.2.1 then ((cTs E 8 (cnx E q.2.1)).1, (cTs E 8 (cnx E q.2.1)).2, fup (fup q.2.2 p (((cnx E q.2.1).sz : Nat) : Int)) (p + 1) (((cTs E 8 (cnx E q.2.1)).2.sz : Nat) : Int)) else q
theorem CS_cl {M M2 : Nat → Nat → Int} {E : rdE} {cl : Nat} {s : cS} (h : CS M E cl s) (e : M2 = px_up M 201 4 (((cl : Nat) : Int) + 1)) : CS M2 E (cl + 1) s := by
  obtain ⟨⟨a1, a2, a3, a4, a5, a6, a7, a8, a9⟩, b2, b3, b4, b5, b6, b7, b8, b9, c1, c2, c3, c4⟩ := h
  subst e
  refine ⟨⟨?_, a2, ?_, a4, a5, ?_, ?_, ?_, ?_⟩, ?_, b3, ?_, ?_, ?_, ?_, ?_, ?_, c1, c2, ?_, c4⟩
  all_goals first | (rw [up_ne (by decide)]; assumption) | (rw [ask_ne (by decide)]; assumption) | skip
  rw [up_s]; show _ = ((cl + 1 : Nat) : Int); omega
theorem CS.n {M : Nat → Nat → Int} {E : rdE} {cl : Nat} {s : cS} (h : CS M E cl s) : M 201 4 = ((cl : Nat) : Int) := h.2.2.2.2.2.2.2.2.2.2.2.1
theorem lp_Text_begin_28 {xs : Nat → Int} {L d : Nat} {sh : List (Nat × Nat)}  (hW : px_W0 <+: sh) {M0 : Nat → Nat → Int}  {cl : Nat} (hn4 : M0 201 4 = ((cl : Nat) : Int)) (hcl : cl < 12) {k : Int} {fr : Int} (hfr : fr = 8 * (cl : Int)) {Q : Option Value → px_H → Prop} (kx : ∀ (j : Nat) (M : Nat → Nat → Int), px_qk sh [204] M0 M → (M 204 = bgn (8 * cl) k (M0 204)) → px_R xs L d 71 (49, [.ref 201, .int (iI (k)), .int (iI (fr)), .int (iI (((j : Nat) : Int)))], [], (sh, M)) Q)  : ∀ (mz : Nat) (j : Nat) (M : Nat → Nat → Int), 8 - j = mz → px_qk sh [204] M0 M → (2 ≤ j ∧ j ≤ 8) → (∀ i, M 204 i = if i = 8 * cl then k else if i = 8 * cl + 1 then 1 else if 8 * cl + 2 ≤ i ∧ i < 8 * cl + j then 0 else M0 204 i) → px_R xs L d 71 (28, [.ref 201, .int (iI (k)), .int (iI (fr)), .int (iI (((j : Nat) : Int)))], [], (sh, M)) Q := by
  intro mz
  induction mz using Nat.strongRecOn with
  | _ mz ih =>
    intro j M hm hq hj hb
    refine rr_iload_n pf_71_28 rfl ?_
    refine rr_bipush pf_71_29 (by decide) ?_
    refine rr_icmp_ge 49 pf_71_31 (by decide) (by unfold rg; omega) (by unfold rg; omega) (fun c1 => ?_) (fun c1 => ?_)
    · exact kx j M hq (by funext i; rw [hb i, show j = 8 by omega]; rfl)
    · refine rr_aload_n pf_71_34 rfl ?_
      refine rr_getR pf_71_35 po_71 pg_6_33 rfl (ws_201 hW) (by decide) (wr_201_2 hq.1) ?_
      refine rr_iload_n pf_71_38 rfl ?_
      refine rr_iload_n pf_71_39 rfl ?_
      refine rr_iadd pf_71_40 ?_
      refine rr_iconst pf_71_41 ?_
      refine vr_iast (j := (8 * cl + j)) hW hq pf_71_42 (ws_204 hW) (by omega) (by omega) (by decide) (by unfold rg; omega) (by decide) (fun M2 eM2 q3 => ?_)
      refine rr_iinc pf_71_43 rfl (fun y => [.ref 201, .int (iI (k)), .int (iI (fr)), .int (iI (y))]) (fun _ => rfl) (fun y4 hy4 => ?_)
      refine rr_goto 28 pf_71_46 (by decide) ?_
      obtain ⟨nz5, hnz5, rfl⟩ : ∃ zz : Nat, zz = 1 + j ∧ y4 = ((zz : Nat) : Int) := ⟨1 + j, rfl, by omega⟩
      exact ih _ (by omega) nz5 M2 rfl q3 (by omega) (by
                  intro i; rw [eM2, ask_up, hb i]; by_cases h1 : i = 8 * cl + j
                  · rw [if_pos h1, if_neg (by omega), if_neg (by omega), if_pos (by omega)]
                  · rw [if_neg h1]; by_cases h2 : i = 8 * cl
                    · rw [if_pos h2, if_pos h2]
                    · rw [if_neg h2, if_neg h2]; by_cases h3 : i = 8 * cl + 1
                      · rw [if_pos h3, if_pos h3]
                      · rw [if_neg h3, if_neg h3]; by_cases h4 : 8 * cl + 2 ≤ i ∧ i < 8 * cl + j
                        · rw [if_pos h4, if_pos (by omega)]
                        · rw [if_neg h4, if_neg (by omega)])
theorem ct_Text_begin {xs : Nat → Int} {L d : Nat} {sh : List (Nat × Nat)} {M0 : Nat → Nat → Int} (hd : 1 ≤ d) (hW : px_W0 <+: sh) (hF : px_Fx M0) (hG : px_RG sh M0)  {cl : Nat} (hn4 : M0 201 4 = ((cl : Nat) : Int)) (hcl : cl < 12) {k : Int} (hk0 : rg k) : ∃ M, (px_qk sh [204] M0 M ∧ (M 204 = bgn (8 * cl) k (M0 204))) ∧ px_Cl xs L d 71 [.ref 201, .int (iI (k))] (sh, M0) (none) (sh, M) := by
  obtain ⟨d, rfl⟩ : ∃ e, d = e + 1 := ⟨d - 1, by omega⟩
  have q0 : px_qk sh [204] M0 M0 := ⟨hF, hG, eo_rf⟩
  refine vc_n (Nat.le_of_ble_eq_true rfl) ?_
  show px_R xs L d 71 (0, [.ref 201, .int (iI (k)), px_jk, px_jk], [], (sh, M0)) (fun r h' => r = none ∧ ∃ M', h' = (sh, M') ∧ px_qk sh [204] M0 M' ∧ M' 204 = bgn (8 * cl) k (M0 204))
  refine rr_aload_n pf_71_0 rfl ?_
  refine vr_getI q0 pf_71_1 po_71 pg_6_13 rfl (ws_201 hW) (by decide) (fun x1 hx1 rx1 => ?_)
  rw [hn4] at hx1
  refine rr_bipush pf_71_4 (by decide) ?_
  refine rr_imul pf_71_6 ?_
  refine rr_istore_n pf_71_7 (fun y => [.ref 201, .int (iI (k)), .int (iI (y)), px_jk]) (Nat.le_of_ble_eq_true rfl) (fun _ => rfl) (fun y2 hy2 => ?_)
  refine rr_aload_n pf_71_8 rfl ?_
  refine rr_getR pf_71_9 po_71 pg_6_33 rfl (ws_201 hW) (by decide) (wr_201_2 q0.1) ?_
  refine rr_iload_n pf_71_12 rfl ?_
  refine rr_iconst pf_71_13 ?_
  refine rr_iadd pf_71_14 ?_
  refine rr_iload_n pf_71_15 rfl ?_
  refine vr_iast (j := (8 * cl)) hW q0 pf_71_16 (ws_204 hW) (by omega) (by omega) (by decide) hk0 (by decide) (fun M3 eM3 q4 => ?_)
  refine rr_aload_n pf_71_17 rfl ?_
  refine rr_getR pf_71_18 po_71 pg_6_33 rfl (ws_201 hW) (by decide) (wr_201_2 q4.1) ?_
  refine rr_iload_n pf_71_21 rfl ?_
  refine rr_iconst pf_71_22 ?_
  refine rr_iadd pf_71_23 ?_
  refine rr_iconst pf_71_24 ?_
  refine vr_iast (j := (8 * cl + 1)) hW q4 pf_71_25 (ws_204 hW) (by omega) (by omega) (by decide) (by unfold rg; omega) (by decide) (fun M5 eM5 q6 => ?_)
  refine rr_iconst pf_71_26 ?_
  refine rr_istore_n pf_71_27 (fun y => [.ref 201, .int (iI (k)), .int (iI (y2)), .int (iI (y))]) (Nat.le_of_ble_eq_true rfl) (fun _ => rfl) (fun y7 hy7 => ?_)
  obtain ⟨nz8, hnz8, rfl⟩ : ∃ zz : Nat, zz = 2 ∧ y7 = ((zz : Nat) : Int) := ⟨2, rfl, by omega⟩
  refine lp_Text_begin_28 (xs := xs) (L := L) (d := d)  hW hn4 hcl (by omega) (fun j_9  M10 q11 xb_M10 => ?_) _ nz8 M5 rfl q6 (by omega) (by
          intro i; rw [eM5, ask_up, eM3, ask_up]; by_cases h1 : i = 8 * cl
          · rw [if_neg (by omega), if_pos h1, if_pos h1]
          · by_cases h2 : i = 8 * cl + 1
            · rw [if_pos h2, if_neg h1, if_pos h2]
            · rw [if_neg h2, if_neg h1, if_neg h1, if_neg h2, if_neg (by omega)])
  refine rr_vret pf_71_49 pt_71 ⟨rfl, M10, rfl, q11, (xb_M10)⟩
theorem ct_Text_mark {xs : Nat → Int} {L d : Nat} {sh : List (Nat × Nat)} {M0 : Nat → Nat → Int} (hd : 1 ≤ d) (hW : px_W0 <+: sh) (hF : px_Fx M0) (hG : px_RG sh M0)  {cl : Nat} (hn4 : M0 201 4 = ((cl : Nat) : Int)) (hcl : cl < 12) {p : Nat} (hp : p < 8) {x : Int} (hx0 : rg x) : ∃ M, (px_qk sh [204] M0 M ∧ (M 204 = fup (M0 204) (8 * cl + p) x)) ∧ px_Cl xs L d 73 [.ref 201, .int (iI (((p : Nat) : Int))), .int (iI (x))] (sh, M0) (none) (sh, M) := by
  obtain ⟨d, rfl⟩ : ∃ e, d = e + 1 := ⟨d - 1, by omega⟩
  have q0 : px_qk sh [204] M0 M0 := ⟨hF, hG, eo_rf⟩
  refine vc_n (Nat.le_of_ble_eq_true rfl) ?_
  show px_R xs L d 73 (0, [.ref 201, .int (iI (((p : Nat) : Int))), .int (iI (x))], [], (sh, M0)) (fun r h' => r = none ∧ ∃ M', h' = (sh, M') ∧ px_qk sh [204] M0 M' ∧ M' 204 = fup (M0 204) (8 * cl + p) x)
  refine rr_aload_n pf_73_0 rfl ?_
  refine rr_getR pf_73_1 po_73 pg_6_33 rfl (ws_201 hW) (by decide) (wr_201_2 q0.1) ?_
  refine rr_aload_n pf_73_4 rfl ?_
  refine vr_getI q0 pf_73_5 po_73 pg_6_13 rfl (ws_201 hW) (by decide) (fun x1 hx1 rx1 => ?_)
  rw [hn4] at hx1
  refine rr_bipush pf_73_8 (by decide) ?_
  refine rr_imul pf_73_10 ?_
  refine rr_iload_n pf_73_11 rfl ?_
  refine rr_iadd pf_73_12 ?_
  refine rr_iload_n pf_73_13 rfl ?_
  refine vr_iast (j := (8 * cl + p)) hW q0 pf_73_14 (ws_204 hW) (by omega) (by omega) (by decide) hx0 (by decide) (fun M2 eM2 q3 => ?_)
  refine rr_vret pf_73_15 pt_73 ⟨rfl, M2, rfl, q3, (up_fup eM2)⟩
theorem ct_CS_sumAs {xs : Nat → Int} {L d : Nat} {sh : List (Nat × Nat)} {M0 : Nat → Nat → Int} (hd : 36 ≤ d) (hW : px_W0 <+: sh) (hF : px_Fx M0) (hG : px_RG sh M0)  {E : rdE} {cl : Nat} {s : cS} (hs : CS M0 E cl s) (hcl : cl < 12) {g : Nat → Int} (hg : M0 204 = g) {p : Nat} (hp : p ≤ 6) : ∃ M, (px_qk sh [200, 201, 202, 203, 204] M0 M ∧ (CS M E cl (sAs E (8 * cl + p) s g).2.1) ∧ (M 204 = (sAs E (8 * cl + p) s g).2.2)) ∧ px_Cl xs L d 72 [.ref 200, .int (iI (((p : Nat) : Int)))] (sh, M0) (some (.int (iI (bI ((sAs E (8 * cl + p) s g).1 = true))))) (sh, M) := by
  obtain ⟨d, rfl⟩ : ∃ e, d = e + 1 := ⟨d - 1, by omega⟩
  have q0 : px_qk sh [200, 201, 202, 203, 204] M0 M0 := ⟨hF, hG, eo_rf⟩
  refine vc_n (Nat.le_of_ble_eq_true rfl) ?_
  show px_R xs L d 72 (0, [.ref 200, .int (iI (((p : Nat) : Int))), px_jk], [], (sh, M0)) (fun r h' => r = some (.int (iI (bI ((sAs E (8 * cl + p) s g).1 = true)))) ∧ ∃ M', h' = (sh, M') ∧ px_qk sh [200, 201, 202, 203, 204] M0 M' ∧ CS M' E cl (sAs E (8 * cl + p) s g).2.1 ∧ M' 204 = (sAs E (8 * cl + p) s g).2.2)
  have hsm := rd_sum (xs := xs) (L := L) (E := E) (cl := cl) hW 8 (by omega)
  refine rr_aload_n pf_72_0 rfl ?_
  refine rr_getR pf_72_1 po_72 pg_3_14 rfl (ws_200 hW) (by decide) (wr_200_0 q0.1) ?_
  refine rr_iload_n pf_72_4 rfl ?_
  refine rr_aload_n pf_72_5 rfl ?_
  refine rr_getR pf_72_6 po_72 pg_3_14 rfl (ws_200 hW) (by decide) (wr_200_0 q0.1) ?_
  refine vr_getI q0 pf_72_9 po_72 pg_3_108 rfl (ws_201 hW) (by decide) (fun x1 hx1 rx1 => ?_)
  rw [hs.z] at hx1
  have hzbx1 := hs.zb
  obtain ⟨M2, ⟨kq3, pgM2⟩, hcM2⟩ := ct_Text_mark (xs := xs) (L := L) (d := d) (cl := cl) (p := p) (x := x1) (by omega) hW q0.1 q0.2.1 hs.n hcl (by omega) (by unfold rg; omega)
  rw [hg] at pgM2
  have q3 := qk_trm q0 kq3 (by decide)
  have pS4 := CS_q hs kq3 (by decide) (by decide) (by decide) (by decide) (by decide)
  refine rr_cV2 pf_72_12 po_72 pc_3_111 (ws_201 hW) po_73 (by decide) rfl hcM2 ?_
  refine rr_aload_n pf_72_15 rfl ?_
  refine rr_iconst pf_72_16 ?_
  obtain ⟨M5, ⟨kq6, pSM5⟩, hcM5⟩ := hsm d M2 s (by omega) q3.1 q3.2.1 pS4
  rw [show ((0 : Nat) : Int) = 0 by omega] at hcM5
  have q6 := qk_trm q3 kq6 (by decide)
  have hg7 : M5 204 = (fup g (8 * cl + p) x1) := (kq6.2.2 204 (by decide)).trans pgM2
  refine rr_cV1 pf_72_17 po_72 pc_3_121 (ws_200 hW) po_74 (by decide) rfl hcM5 ?_
  refine rr_istore_n pf_72_20 (fun y => [.ref 200, .int (iI (((p : Nat) : Int))), .int (iI (y))]) (Nat.le_of_ble_eq_true rfl) (fun _ => rfl) (fun y8 hy8 => ?_)
  have ry8 := bI_rg ((cSm E 8 s).1 = true)
  have hy := bI_dj (cSm E 8 s).1
  rw [← hy8] at hy
  have hyv : y8 = bI ((sAs E (8 * cl + p) s g).1 = true) := hy8
  have hy01 : y8 = 0 ∨ y8 = 1 := by rcases hy with z | z <;> omega
  refine rr_aload_n pf_72_21 rfl ?_
  refine rr_getR pf_72_22 po_72 pg_3_14 rfl (ws_200 hW) (by decide) (wr_200_0 q6.1) ?_
  refine rr_iload_n pf_72_25 rfl ?_
  refine rr_iconst pf_72_26 ?_
  refine rr_iadd pf_72_27 ?_
  refine rr_aload_n pf_72_28 rfl ?_
  refine rr_getR pf_72_29 po_72 pg_3_14 rfl (ws_200 hW) (by decide) (wr_200_0 q6.1) ?_
  refine vr_getI q6 pf_72_32 po_72 pg_3_108 rfl (ws_201 hW) (by decide) (fun x9 hx9 rx9 => ?_)
  rw [pSM5.z] at hx9
  have hzbx9 := pSM5.zb
  obtain ⟨M10, ⟨kq11, pgM10⟩, hcM10⟩ := ct_Text_mark (xs := xs) (L := L) (d := d) (cl := cl) (p := 1 + p) (x := x9) (by omega) hW q6.1 q6.2.1 pSM5.n hcl (by omega) (by unfold rg; omega)
  rw [show ((1 + p : Nat) : Int) = ((p : Nat) : Int) + 1 by omega] at hcM10
  rw [hg7] at pgM10
  have q11 := qk_trm q6 kq11 (by decide)
  have pS12 := CS_q pSM5 kq11 (by decide) (by decide) (by decide) (by decide) (by decide)
  refine rr_cV2 pf_72_35 po_72 pc_3_111 (ws_201 hW) po_73 (by decide) rfl hcM10 ?_
  refine rr_iload_n pf_72_38 rfl ?_
  refine rr_zret pf_72_39 pt_72 (by first | exact Or.inl rfl | exact Or.inr rfl | omega) ⟨by congr 3; try exact hyv, M10, rfl, q11, (pS12), (by rw [pgM10, hx1, hx9, show 8 * cl + (1 + p) = 8 * cl + p + 1 by omega]; rfl)⟩
theorem ct_CS_often {xs : Nat → Int} {L d : Nat} {sh : List (Nat × Nat)} {M0 : Nat → Nat → Int} (hd : 4 ≤ d) (hW : px_W0 <+: sh) (hF : px_Fx M0) (hG : px_RG sh M0)  {E : rdE} {cl : Nat} {s : cS} (hs : CS M0 E cl s) (hcl : cl < 12) {g : Nat → Int} (hg : M0 204 = g) : ∃ M, (px_qk sh [200, 201, 202, 203, 204] M0 M ∧ (CS M E cl (ofn E (8 * cl + 1) s g).2.1) ∧ (M 204 = (ofn E (8 * cl + 1) s g).2.2)) ∧ px_Cl xs L d 86 [.ref 200] (sh, M0) (some (.int (iI (bI ((ofn E (8 * cl + 1) s g).1 = true))))) (sh, M) := by
  obtain ⟨d, rfl⟩ : ∃ e, d = e + 1 := ⟨d - 1, by omega⟩
  have q0 : px_qk sh [200, 201, 202, 203, 204] M0 M0 := ⟨hF, hG, eo_rf⟩
  refine vc_n (Nat.le_of_ble_eq_true rfl) ?_
  show px_R xs L d 86 (0, [.ref 200], [], (sh, M0)) (fun r h' => r = some (.int (iI (bI ((ofn E (8 * cl + 1) s g).1 = true)))) ∧ ∃ M', h' = (sh, M') ∧ px_qk sh [200, 201, 202, 203, 204] M0 M' ∧ CS M' E cl (ofn E (8 * cl + 1) s g).2.1 ∧ M' 204 = (ofn E (8 * cl + 1) s g).2.2)
  refine rr_aload_n pf_86_0 rfl ?_
  obtain ⟨M1, ⟨kq2, pSM1⟩, hcM1⟩ := ct_CS_next (xs := xs) (L := L) (d := d) (E := E) (cl := cl) (s := s) (by omega) hW q0.1 q0.2.1 hs 
  have q2 := qk_trm q0 kq2 (by decide)
  have hg3 : M1 204 = g := (kq2.2.2 204 (by decide)).trans hg
  refine rr_cV0 pf_86_1 po_86 pc_3_57 (ws_200 hW) po_59 (by decide) rfl hcM1 ?_
  refine rr_aload_n pf_86_4 rfl ?_
  refine vr_getI q2 pf_86_5 po_86 pg_3_34 rfl (ws_200 hW) (by decide) (fun x4 hx4 rx4 => ?_)
  rw [pSM1.lx.2.2.2.2.2.2.2.1] at hx4
  refine rr_iconst pf_86_8 ?_
  refine rr_icmp_ne 25 pf_86_9 (by decide) rx4 (by unfold rg; omega) (fun c5 => ?_) (fun c5 => ?_)
  · have hO : ofn E (8 * cl + 1) s g = (false, cfl E (cnx E s), g) := by
      unfold ofn; rw [if_neg]; rintro ⟨z1, z2, z3⟩
      have hcv := cnm_v (E := E) (s := cnx E s) ⟨z1, by omega⟩
      have z4 : tkK E.tn E.tb (cnx E s).i = 2 := z1
      omega
    refine rr_aload_n pf_86_25 rfl ?_
    obtain ⟨M6, ⟨kq7, pSM6⟩, hcM6⟩ := ct_CS_fail (xs := xs) (L := L) (d := d) (E := E) (cl := cl) (s := (cnx E s)) (by omega) hW q2.1 q2.2.1 pSM1 
    have q7 := qk_trm q2 kq7 (by decide)
    have hg8 : M6 204 = g := (kq7.2.2 204 (by decide)).trans hg3
    refine rr_cV0 pf_86_26 po_86 pc_3_71 (ws_200 hW) po_70 (by decide) rfl hcM6 ?_
    refine rr_zret pf_86_29 pt_86 (by have := bI_rg (False); omega) ⟨by congr 3; exact bI_c (by rw [hO]; exact ⟨False.elim, fun z => by cases z⟩), M6, rfl, q7, (by rw [hO]; exact pSM6), (by rw [hO, hg8])⟩
  · refine rr_aload_n pf_86_12 rfl ?_
    refine vr_getI q2 pf_86_13 po_86 pg_3_43 rfl (ws_200 hW) (by decide) (fun x9 hx9 rx9 => ?_)
    rw [pSM1.lx.2.2.2.2.2.2.2.2] at hx9
    refine rr_iconst pf_86_16 ?_
    refine rr_bipush pf_86_17 (by decide) ?_
    refine rr_cS3 pf_86_19 po_86 pc_3_117 (by decide) rfl (ct_S_within (by omega) rx9 (by unfold rg; omega) (by unfold rg; omega)) ?_
    refine rr_ifb_ne 30 pf_86_22 (by decide) (fun c10 => ?_) (fun c10 => ?_)
    · have hcc := cnm_c (E := E) (s := cnx E s) (x := 20) (by omega)
      have hk2 : cK E (cnx E s) = 2 := by show tkK E.tn E.tb (cnx E s).i = 2; omega
      have hle := (hcc.mp ⟨hk2, by omega⟩).2
      have hcv := cnm_v (E := E) (s := cnx E s) ⟨hk2, by omega⟩
      have hO : ofn E (8 * cl + 1) s g = (true, cnx E (cnx E s), fup g (8 * cl + 1) (cW E (cnx E s))) := by
        unfold ofn; rw [if_pos ⟨hk2, by omega, hle⟩]
      refine rr_aload_n pf_86_30 rfl ?_
      refine rr_getR pf_86_31 po_86 pg_3_14 rfl (ws_200 hW) (by decide) (wr_200_0 q2.1) ?_
      refine rr_iconst pf_86_34 ?_
      refine rr_aload_n pf_86_35 rfl ?_
      refine vr_getI q2 pf_86_36 po_86 pg_3_43 rfl (ws_200 hW) (by decide) (fun x11 hx11 rx11 => ?_)
      rw [pSM1.lx.2.2.2.2.2.2.2.2] at hx11
      obtain ⟨M12, ⟨kq13, pgM12⟩, hcM12⟩ := ct_Text_mark (xs := xs) (L := L) (d := d) (cl := cl) (p := 1) (x := x11) (by omega) hW q2.1 q2.2.1 pSM1.n hcl (by omega) (by unfold rg; omega)
      rw [show ((1 : Nat) : Int) = 1 by omega] at hcM12
      rw [hg3] at pgM12
      have q13 := qk_trm q2 kq13 (by decide)
      have pS14 := CS_q pSM1 kq13 (by decide) (by decide) (by decide) (by decide) (by decide)
      refine rr_cV2 pf_86_39 po_86 pc_3_111 (ws_201 hW) po_73 (by decide) rfl hcM12 ?_
      refine rr_aload_n pf_86_42 rfl ?_
      obtain ⟨M15, ⟨kq16, pSM15⟩, hcM15⟩ := ct_CS_next (xs := xs) (L := L) (d := d) (E := E) (cl := cl) (s := (cnx E s)) (by omega) hW q13.1 q13.2.1 pS14 
      have q16 := qk_trm q13 kq16 (by decide)
      have hg17 : M15 204 = (fup g (8 * cl + 1) x11) := (kq16.2.2 204 (by decide)).trans pgM12
      refine rr_cV0 pf_86_43 po_86 pc_3_57 (ws_200 hW) po_59 (by decide) rfl hcM15 ?_
      refine rr_iconst pf_86_46 ?_
      refine rr_zret pf_86_47 pt_86 (by first | exact Or.inl rfl | exact Or.inr rfl | omega) ⟨by rw [bI_t (by rw [hO])], M15, rfl, q16, (by rw [hO]; exact pSM15), (by rw [hO, hg17]; rw [show x11 = cW E (cnx E s) by omega])⟩
    · have hO : ofn E (8 * cl + 1) s g = (false, cfl E (cnx E s), g) := by
        unfold ofn; rw [if_neg]; rintro ⟨z1, z2, z3⟩
        have hcv := cnm_v (E := E) (s := cnx E s) ⟨z1, by omega⟩
        have z4 : tkK E.tn E.tb (cnx E s).i = 2 := z1
        omega
      refine rr_aload_n pf_86_25 rfl ?_
      obtain ⟨M18, ⟨kq19, pSM18⟩, hcM18⟩ := ct_CS_fail (xs := xs) (L := L) (d := d) (E := E) (cl := cl) (s := (cnx E s)) (by omega) hW q2.1 q2.2.1 pSM1 
      have q19 := qk_trm q2 kq19 (by decide)
      have hg20 : M18 204 = g := (kq19.2.2 204 (by decide)).trans hg3
      refine rr_cV0 pf_86_26 po_86 pc_3_71 (ws_200 hW) po_70 (by decide) rfl hcM18 ?_
      refine rr_zret pf_86_29 pt_86 (by have := bI_rg (False); omega) ⟨by congr 3; exact bI_c (by rw [hO]; exact ⟨False.elim, fun z => by cases z⟩), M18, rfl, q19, (by rw [hO]; exact pSM18), (by rw [hO, hg20])⟩
def cKd (E : rdE) (s : cS) : Int := if E.od = 1 then kAt (hw 0) (cK E s) (cW E s) 5 else kAt (hw 1) (cK E s) (cW E s) 4
def cC1 (E : rdE) (cl : Nat) (k : Int) (s : cS) (g : Nat → Int) : cQ := if k = (if E.od = 1 then 4 else 3) then (true, s, g) else sAs E (8 * cl + 2) s g
def wsm (E : rdE) (cl t : Nat) (s : cS) (g : Nat → Int) : cQ := if cwd E t s then sAs E (8 * cl + 4) (cnx E s) g else (false, cfl E s, g)
def cC2 (E : rdE) (cl : Nat) (k : Int) (q : cQ) : cQ := if q.1 = true ∧ E.od = 1 ∧ k = 1 then wsm E cl 6 q.2.1 q.2.2 else if q.1 = true ∧ E.od = 1 ∧ k = 3 then wsm E cl 7 q.2.1 q.2.2 else q
def cC3 (E : rdE) (cl : Nat) (q : cQ) : cQ := if q.1 = true ∧ E.od = 1 ∧ cwd E 8 q.2.1 then ofn E (8 * cl + 1) q.2.1 q.2.2 else q
def cCl (E : rdE) (cl : Nat) (s : cS) (g : Nat → Int) : cQ := if cKd E s = -1 then (false, cfl E s, g) else cIf E (8 * cl + 6) (cC3 E cl (cC2 E cl (cKd E s) (cC1 E cl (cKd E s) (cnx E s) (bgn (8 * cl) (cKd E s) g))))
def fIs (fi : Int) (b : Bool) : Prop := (fi = 1 ∧ b = true) ∨ (fi = 0 ∧ b = false)
theorem fIs_b (b : Bool) : fIs (bI (b = true)) b := bI_dj b
theorem fIs_t {fi : Int} {b : Bool} (h : fIs fi b) (h0 : fi ≠ 0) : b = true := by
  rcases h with z | z
  · exact z.2
  · exact absurd z.1 h0
theorem fIs_f {fi : Int} {b : Bool} (h : fIs fi b) (h0 : fi = 0) : b = false := by
  rcases h with z | z
  · omega
  · exact z.2
theorem fIs_01 {fi : Int} {b : Bool} (h : fIs fi b) : fi = 0 ∨ fi = 1 := by rcases h with z | z <;> omega

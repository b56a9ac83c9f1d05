/-! the class's reader: a text as a whole -/
abbrev cR : Type := Bool × cS × Nat × (Nat → Int)
def cOf (cl : Nat) (q : cQ) : cR := (q.1, q.2.1, if q.1 = true then cl + 1 else cl, q.2.2)
def cRs (E : rdE) (r : cR) : cR := if csg E 59 r.2.1 then (if r.2.2.1 < 12 then cOf r.2.2.1 (cCl E r.2.2.1 (cnx E r.2.1) r.2.2.2) else (false, cfl E (cnx E r.2.1), r.2.2.1, r.2.2.2)) else (false, cfl E r.2.1, r.2.2.1, r.2.2.2)
def rLp (E : rdE) : Nat → cR → cR
  | 0, r => r
  | f + 1, r => if r.1 = true ∧ cK E r.2.1 ≠ 0 then rLp E f (cRs E r) else r
theorem rLp_e {E : rdE} {r : cR} (h : ¬ (r.1 = true ∧ cK E r.2.1 ≠ 0)) : ∀ f, rLp E f r = r := by
  intro f
  cases f with
  | zero => rfl
  | succ f => rw [rLp, if_neg h]
def cS0 (o a : Nat → Int) : cS := (0, 0, 0, o, a, 0, -1)
def cRead (E : rdE) (o a g : Nat → Int) : cR := rLp E 400 (cOf 0 (cCl E 0 (cS0 o a) g))
theorem cOf_b {cl : Nat} {q : cQ} (h : cl < 12) : (cOf cl q).2.2.1 ≤ 12 := by unfold cOf; show (if q.1 = true then cl + 1 else cl) ≤ 12; split <;> omega
theorem ct_Text_clear {xs : Nat → Int} {L d : Nat} {sh : List (Nat × Nat)} {M0 : Nat → Nat → Int} (hd : 1 ≤ d) (hW : px_W0 <+: sh) (hF : px_Fx M0) (hG : px_RG sh M0)   : ∃ M, (px_qk sh [201] M0 M ∧ (M 201 3 = 0) ∧ (M 201 4 = 0) ∧ (M 201 5 = 0)) ∧ px_Cl xs L d 58 [.ref 201] (sh, M0) (none) (sh, M) := by
  obtain ⟨d, rfl⟩ : ∃ e, d = e + 1 := ⟨d - 1, by omega⟩
  have q0 : px_qk sh [201] M0 M0 := ⟨hF, hG, eo_rf⟩
  refine vc_n (Nat.le_of_ble_eq_true rfl) ?_
  show px_R xs L d 58 (0, [.ref 201], [], (sh, M0)) (fun r h' => r = none ∧ ∃ M', h' = (sh, M') ∧ px_qk sh [201] M0 M' ∧ M' 201 3 = 0 ∧ M' 201 4 = 0 ∧ M' 201 5 = 0)
  refine rr_aload_n pf_58_0 rfl ?_
  refine rr_iconst pf_58_1 ?_
  refine vr_putI hW q0 pf_58_2 po_58 pg_6_7 (Or.inl rfl) rfl (ws_201 hW) (by decide) (by unfold rg; omega) (by decide) (fun M1 eM1 q2 => ?_)
  refine rr_aload_n pf_58_5 rfl ?_
  refine rr_iconst pf_58_6 ?_
  refine vr_putI hW q2 pf_58_7 po_58 pg_6_13 (Or.inl rfl) rfl (ws_201 hW) (by decide) (by unfold rg; omega) (by decide) (fun M3 eM3 q4 => ?_)
  refine rr_aload_n pf_58_10 rfl ?_
  refine rr_iconst pf_58_11 ?_
  refine vr_putZ hW q4 pf_58_12 po_58 pg_6_16 (Or.inl rfl) rfl (ws_201 hW) (by decide) (by omega) (by decide) (fun M5 eM5 q6 => ?_)
  refine rr_vret pf_58_15 pt_58 ⟨rfl, M5, rfl, q6, (by rw [eM5, up_ne (by decide), eM3, up_ne (by decide), eM1, up_s]), (by rw [eM5, up_ne (by decide), eM3, up_s]), (by rw [eM5, up_s])⟩
theorem lp_CS_reads_53 {xs : Nat → Int} {L d : Nat} {sh : List (Nat × Nat)} (hd : 41 ≤ d) (hW : px_W0 <+: sh) {M0 : Nat → Nat → Int}  {E : rdE} {ln asd : Int} {R0 : cR} {Q : Option Value → px_H → Prop} (kx : ∀ (r : cR) (fi : Int) (j : Nat) (v5 : Value) (M : Nat → Nat → Int), px_qk sh [200, 201, 202, 203, 204] M0 M → (CS M E r.2.2.1 r.2.1) → (M 204 = r.2.2.2) → (fIs fi r.1) → (rLp E 400 R0 = r) → (r.2.2.1 ≤ 12) → px_R xs L d 57 (124, [.ref 200, .int (iI (ln)), .int (iI (asd)), .int (iI (fi)), .int (iI (((j : Nat) : Int))), v5], [], (sh, M)) Q)  : ∀ (mz : Nat) (r : cR) (fi : Int) (j : Nat) (v5 : Value) (M : Nat → Nat → Int), 400 - j = mz → px_qk sh [200, 201, 202, 203, 204] M0 M → (j ≤ 400) → (CS M E r.2.2.1 r.2.1) → (M 204 = r.2.2.2) → (fIs fi r.1) → (r.2.2.1 ≤ 12) → (rLp E 400 R0 = rLp E (400 - j) r) → px_R xs L d 57 (53, [.ref 200, .int (iI (ln)), .int (iI (asd)), .int (iI (fi)), .int (iI (((j : Nat) : Int))), v5], [], (sh, M)) Q := by
  intro mz
  induction mz using Nat.strongRecOn with
  | _ mz ih =>
    intro r fi j v5 M hm hq hj hS hG2 hfi hcb hE
    have hf01 := fIs_01 hfi
    refine rr_iload pf_57_53 rfl ?_
    refine rr_sipush pf_57_55 (by decide) ?_
    refine rr_icmp_ge 124 pf_57_58 (by decide) (by unfold rg; omega) (by unfold rg; omega) (fun c1 => ?_) (fun c1 => ?_)
    · exact kx r fi j _ M hq (hS) (hG2) (hfi) (by rw [hE, show 400 - j = 0 by omega]; rfl) (hcb)
    · refine rr_iload_n pf_57_61 rfl ?_
      refine rr_if_eq 124 pf_57_62 (by decide) (by unfold rg; omega) (fun c2 => ?_) (fun c2 => ?_)
      · exact kx r fi j _ M hq (hS) (hG2) (hfi) (by rw [hE]; exact rLp_e (fun z => by have z1 := z.1; rw [fIs_f hfi (by omega)] at z1; cases z1) _) (hcb)
      · refine rr_aload_n pf_57_65 rfl ?_
        refine vr_getI hq pf_57_66 po_57 pg_3_34 rfl (ws_200 hW) (by decide) (fun x3 hx3 rx3 => ?_)
        rw [hS.lx.2.2.2.2.2.2.2.1] at hx3
        refine rr_if_eq 124 pf_57_69 (by decide) rx3 (fun c4 => ?_) (fun c4 => ?_)
        · exact kx r fi j _ M hq (hS) (hG2) (hfi) (by rw [hE]; exact rLp_e (fun z => z.2 (by show tkK E.tn E.tb r.2.1.i = 0; omega)) _) (hcb)
        · have hk0 : cK E r.2.1 ≠ 0 := by intro z; have z1 : tkK E.tn E.tb r.2.1.i = 0 := z; omega
          refine rr_aload_n pf_57_72 rfl ?_
          refine rr_bipush pf_57_73 (by decide) ?_
          obtain ⟨M5, ⟨kq6, pSM5⟩, hcM5⟩ := ct_CS_isSign (xs := xs) (L := L) (d := d) (E := E) (cl := r.2.2.1) (s := r.2.1) (c := 59) (by omega) hW hq.1 hq.2.1 hS (by omega)
          obtain rfl := qk_nil kq6
          refine rr_cV1 pf_57_75 po_57 pc_3_64 (ws_200 hW) po_77 (by decide) rfl hcM5 ?_
          refine rr_istore pf_57_78 (fun y => [.ref 200, .int (iI (ln)), .int (iI (asd)), .int (iI (fi)), .int (iI (((j : Nat) : Int))), .int (iI (y))]) (Nat.le_of_ble_eq_true rfl) (fun _ => rfl) (fun y7 hy7 => ?_)
          have ry7 := bI_rg (csg E 59 (r.2.1))
          have hy5c : y7 ≠ 0 → csg E 59 r.2.1 := fun z => Decidable.byContradiction (fun z2 => z (by rw [hy7]; exact bI_f z2))
          have hy5d : y7 = 0 → ¬ csg E 59 r.2.1 := fun z z2 => by rw [hy7, bI_t z2] at z; cases z
          refine rr_iload pf_57_80 rfl ?_
          refine rr_if_eq 89 pf_57_82 (by decide) (by unfold rg; omega) (fun c8 => ?_) (fun c8 => ?_)
          · refine rr_iload pf_57_89 rfl ?_
            refine rr_if_eq 113 pf_57_91 (by decide) (by unfold rg; omega) (fun c9 => ?_) (fun c9 => ?_)
            · have hsg : ¬ csg E 59 r.2.1 := hy5d (by omega)
              have hstep : cRs E r = (false, cfl E r.2.1, r.2.2.1, r.2.2.2) := by unfold cRs; rw [if_neg hsg]
              refine rr_aload_n pf_57_113 rfl ?_
              obtain ⟨M10, ⟨kq11, pSM10⟩, hcM10⟩ := ct_CS_fail (xs := xs) (L := L) (d := d) (E := E) (cl := r.2.2.1) (s := ((r.2.1))) (by omega) hW hq.1 hq.2.1 pSM5 
              have q11 := qk_trm hq kq11 (by decide)
              have hg12 : M10 204 = r.2.2.2 := (kq11.2.2 204 (by decide)).trans hG2
              refine rr_cV0 pf_57_114 po_57 pc_3_71 (ws_200 hW) po_70 (by decide) rfl hcM10 ?_
              refine rr_istore_n pf_57_117 (fun y => [.ref 200, .int (iI (ln)), .int (iI (asd)), .int (iI (y)), .int (iI (((j : Nat) : Int))), .int (iI (y7))]) (Nat.le_of_ble_eq_true rfl) (fun _ => rfl) (fun y13 hy13 => ?_)
              have ry13 := bI_rg (False)
              refine rr_iinc pf_57_118 rfl (fun y => [.ref 200, .int (iI (ln)), .int (iI (asd)), .int (iI (y13)), .int (iI (y)), .int (iI (y7))]) (fun _ => rfl) (fun y14 hy14 => ?_)
              refine rr_goto 53 pf_57_121 (by decide) ?_
              obtain ⟨nz15, hnz15, rfl⟩ : ∃ zz : Nat, zz = 1 + j ∧ y14 = ((zz : Nat) : Int) := ⟨1 + j, rfl, by omega⟩
              exact ih _ (by omega) (false, cfl E r.2.1, r.2.2.1, r.2.2.2) y13 nz15 _ M10 rfl q11 (by omega) (pSM10) (hg12) (by exact Or.inr ⟨by rw [hy13]; exact bI_f id, rfl⟩) (hcb) (by rw [hE, show 400 - j = (400 - nz15) + 1 by omega, rLp, if_pos ⟨fIs_t hfi (by omega), hk0⟩, hstep])
            · exfalso; omega
          · refine rr_aload_n pf_57_85 rfl ?_
            obtain ⟨M16, ⟨kq17, pSM16⟩, hcM16⟩ := ct_CS_next (xs := xs) (L := L) (d := d) (E := E) (cl := r.2.2.1) (s := ((r.2.1))) (by omega) hW hq.1 hq.2.1 pSM5 
            have q17 := qk_trm hq kq17 (by decide)
            have hg18 : M16 204 = r.2.2.2 := (kq17.2.2 204 (by decide)).trans hG2
            refine rr_cV0 pf_57_86 po_57 pc_3_57 (ws_200 hW) po_59 (by decide) rfl hcM16 ?_
            refine rr_iload pf_57_89 rfl ?_
            refine rr_if_eq 113 pf_57_91 (by decide) (by unfold rg; omega) (fun c19 => ?_) (fun c19 => ?_)
            · exfalso; omega
            · refine rr_aload_n pf_57_94 rfl ?_
              refine rr_getR pf_57_95 po_57 pg_3_14 rfl (ws_200 hW) (by decide) (wr_200_0 q17.1) ?_
              refine vr_getI q17 pf_57_98 po_57 pg_3_68 rfl (ws_201 hW) (by decide) (fun x20 hx20 rx20 => ?_)
              rw [pSM16.n] at hx20
              refine rr_bipush pf_57_101 (by decide) ?_
              refine rr_icmp_ge 113 pf_57_103 (by decide) rx20 (by unfold rg; omega) (fun c21 => ?_) (fun c21 => ?_)
              · have hsg : csg E 59 r.2.1 := hy5c (by omega)
                have hstep : cRs E r = (false, cfl E (cnx E r.2.1), r.2.2.1, r.2.2.2) := by unfold cRs; rw [if_pos hsg, if_neg (by omega)]
                refine rr_aload_n pf_57_113 rfl ?_
                obtain ⟨M22, ⟨kq23, pSM22⟩, hcM22⟩ := ct_CS_fail (xs := xs) (L := L) (d := d) (E := E) (cl := r.2.2.1) (s := (cnx E ((r.2.1)))) (by omega) hW q17.1 q17.2.1 pSM16 
                have q23 := qk_trm q17 kq23 (by decide)
                have hg24 : M22 204 = r.2.2.2 := (kq23.2.2 204 (by decide)).trans hg18
                refine rr_cV0 pf_57_114 po_57 pc_3_71 (ws_200 hW) po_70 (by decide) rfl hcM22 ?_
                refine rr_istore_n pf_57_117 (fun y => [.ref 200, .int (iI (ln)), .int (iI (asd)), .int (iI (y)), .int (iI (((j : Nat) : Int))), .int (iI (y7))]) (Nat.le_of_ble_eq_true rfl) (fun _ => rfl) (fun y25 hy25 => ?_)
                have ry25 := bI_rg (False)
                refine rr_iinc pf_57_118 rfl (fun y => [.ref 200, .int (iI (ln)), .int (iI (asd)), .int (iI (y25)), .int (iI (y)), .int (iI (y7))]) (fun _ => rfl) (fun y26 hy26 => ?_)
                refine rr_goto 53 pf_57_121 (by decide) ?_
                obtain ⟨nz27, hnz27, rfl⟩ : ∃ zz : Nat, zz = 1 + j ∧ y26 = ((zz : Nat) : Int) := ⟨1 + j, rfl, by omega⟩
                exact ih _ (by omega) (false, cfl E (cnx E r.2.1), r.2.2.1, r.2.2.2) y25 nz27 _ M22 rfl q23 (by omega) (pSM22) (hg24) (by exact Or.inr ⟨by rw [hy25]; exact bI_f id, rfl⟩) (hcb) (by rw [hE, show 400 - j = (400 - nz27) + 1 by omega, rLp, if_pos ⟨fIs_t hfi (by omega), hk0⟩, hstep])
              · have hsg : csg E 59 r.2.1 := hy5c (by omega)
                have hstep : cRs E r = cOf r.2.2.1 (cCl E r.2.2.1 (cnx E r.2.1) r.2.2.2) := by unfold cRs; rw [if_pos hsg, if_pos (by omega)]
                refine rr_aload_n pf_57_106 rfl ?_
                obtain ⟨M28, ⟨kq29, pSM28, pgM28⟩, hcM28⟩ := ct_CS_clause (xs := xs) (L := L) (d := d) (E := E) (cl := r.2.2.1) (s := (cnx E ((r.2.1)))) (g := r.2.2.2) (by omega) hW q17.1 q17.2.1 pSM16 (by omega) hg18
                have q29 := qk_trm q17 kq29 (by decide)
                refine rr_cV0 pf_57_107 po_57 pc_3_60 (ws_200 hW) po_61 (by decide) rfl hcM28 ?_
                refine rr_goto 117 pf_57_110 (by decide) ?_
                refine rr_istore_n pf_57_117 (fun y => [.ref 200, .int (iI (ln)), .int (iI (asd)), .int (iI (y)), .int (iI (((j : Nat) : Int))), .int (iI (y7))]) (Nat.le_of_ble_eq_true rfl) (fun _ => rfl) (fun y30 hy30 => ?_)
                have ry30 := bI_rg ((cCl E (r.2.2.1) (cnx E ((r.2.1))) (r.2.2.2)).1 = true)
                refine rr_iinc pf_57_118 rfl (fun y => [.ref 200, .int (iI (ln)), .int (iI (asd)), .int (iI (y30)), .int (iI (y)), .int (iI (y7))]) (fun _ => rfl) (fun y31 hy31 => ?_)
                refine rr_goto 53 pf_57_121 (by decide) ?_
                obtain ⟨nz32, hnz32, rfl⟩ : ∃ zz : Nat, zz = 1 + j ∧ y31 = ((zz : Nat) : Int) := ⟨1 + j, rfl, by omega⟩
                exact ih _ (by omega) (cOf (r.2.2.1) (cCl E (r.2.2.1) (cnx E ((r.2.1))) (r.2.2.2))) y30 nz32 _ M28 rfl q29 (by omega) (pSM28) (pgM28) (by rw [hy30]; exact fIs_b _) (cOf_b (by omega)) (by rw [hE, show 400 - j = (400 - nz32) + 1 by omega, rLp, if_pos ⟨fIs_t hfi (by omega), hk0⟩, hstep])
theorem ct_CS_reads {xs : Nat → Int} {L d : Nat} {sh : List (Nat × Nat)} {M0 : Nat → Nat → Int} (hd : 42 ≤ d) (hW : px_W0 <+: sh) (hF : px_Fx M0) (hG : px_RG sh M0)  {E : rdE} (hE3 : E.tn ≤ 400) (hE1 : M0 199 = E.tb) (hE4 : ∀ j, 0 ≤ E.tb j ∧ E.tb j ≤ 255) (hod : E.od = 0 ∨ E.od = 1) {asd : Int} (hasd : asd = E.od) : ∃ M, (px_qk sh [200, 201, 202, 203, 204] M0 M ∧ (CS M E (cRead E (M0 202) (M0 203) (M0 204)).2.2.1 (cRead E (M0 202) (M0 203) (M0 204)).2.1) ∧ (M 204 = (cRead E (M0 202) (M0 203) (M0 204)).2.2.2) ∧ ((cRead E (M0 202) (M0 203) (M0 204)).2.2.1 ≤ 12)) ∧ px_Cl xs L d 57 [.ref 200, .int (iI (((E.tn : Nat) : Int))), .int (iI (asd))] (sh, M0) (some (.int (iI (bI ((cRead E (M0 202) (M0 203) (M0 204)).1 = true))))) (sh, M) := by
  obtain ⟨d, rfl⟩ : ∃ e, d = e + 1 := ⟨d - 1, by omega⟩
  have q0 : px_qk sh [200, 201, 202, 203, 204] M0 M0 := ⟨hF, hG, eo_rf⟩
  refine vc_n (Nat.le_of_ble_eq_true rfl) ?_
  show px_R xs L d 57 (0, [.ref 200, .int (iI (((E.tn : Nat) : Int))), .int (iI (asd)), px_jk, px_jk, px_jk], [], (sh, M0)) (fun r h' => r = some (.int (iI (bI ((cRead E (M0 202) (M0 203) (M0 204)).1 = true)))) ∧ ∃ M', h' = (sh, M') ∧ px_qk sh [200, 201, 202, 203, 204] M0 M' ∧ CS M' E (cRead E (M0 202) (M0 203) (M0 204)).2.2.1 (cRead E (M0 202) (M0 203) (M0 204)).2.1 ∧ M' 204 = (cRead E (M0 202) (M0 203) (M0 204)).2.2.2 ∧ (cRead E (M0 202) (M0 203) (M0 204)).2.2.1 ≤ 12)
  refine rr_aload_n pf_57_0 rfl ?_
  refine rr_iload_n pf_57_1 rfl ?_
  refine rr_iconst pf_57_2 ?_
  refine rr_aload_n pf_57_3 rfl ?_
  refine rr_getR pf_57_4 po_57 pg_3_46 rfl (ws_200 hW) (by decide) (wr_200_2 q0.1) ?_
  refine rr_alen pf_57_7 (ws_199 hW) (by decide) ?_
  refine rr_cS3 pf_57_8 po_57 pc_3_50 (by decide) rfl (ct_S_nearest (by omega) (by unfold rg; omega) (by unfold rg; omega) (by unfold rg; omega)) ?_
  refine vr_putI hW q0 pf_57_11 po_57 pg_3_24 (Or.inl rfl) rfl (ws_200 hW) (by decide) (by unfold rg; omega) (by decide) (fun M1 eM1 q2 => ?_)
  refine rr_aload_n pf_57_14 rfl ?_
  refine rr_iload_n pf_57_15 rfl ?_
  refine vr_putZ hW q2 pf_57_16 po_57 pg_3_27 (Or.inl rfl) rfl (ws_200 hW) (by decide) (by omega) (by decide) (fun M3 eM3 q4 => ?_)
  refine rr_aload_n pf_57_19 rfl ?_
  refine rr_iconst pf_57_20 ?_
  refine vr_putI hW q4 pf_57_21 po_57 pg_3_31 (Or.inl rfl) rfl (ws_200 hW) (by decide) (by unfold rg; omega) (by decide) (fun M5 eM5 q6 => ?_)
  refine rr_aload_n pf_57_24 rfl ?_
  refine rr_iconst pf_57_25 ?_
  refine vr_putI hW q6 pf_57_26 po_57 pg_3_40 (Or.inl rfl) rfl (ws_200 hW) (by decide) (by unfold rg; omega) (by decide) (fun M7 eM7 q8 => ?_)
  refine rr_aload_n pf_57_29 rfl ?_
  refine rr_iconst pf_57_30 ?_
  refine vr_putI hW q8 pf_57_31 po_57 pg_3_20 (Or.inl rfl) rfl (ws_200 hW) (by decide) (by unfold rg; omega) (by decide) (fun M9 eM9 q10 => ?_)
  refine rr_aload_n pf_57_34 rfl ?_
  refine rr_getR pf_57_35 po_57 pg_3_14 rfl (ws_200 hW) (by decide) (wr_200_0 q10.1) ?_
  obtain ⟨M11, ⟨kq12, p3_M11, p4_M11, p5_M11⟩, hcM11⟩ := ct_Text_clear (xs := xs) (L := L) (d := d)  (by omega) hW q10.1 q10.2.1 
  have q12 := qk_trm q10 kq12 (by decide)
  refine rr_cV0 pf_57_38 po_57 pc_3_54 (ws_201 hW) po_58 (by decide) rfl hcM11 ?_
  refine rr_aload_n pf_57_41 rfl ?_
  have g3 : M11 200 3 = ((E.tn : Nat) : Int) := by rw [kq12.2.2 200 (by decide), eM9, up_ne (by decide), eM7, up_ne (by decide), eM5, up_ne (by decide), eM3, up_ne (by decide), eM1, up_s]; omega
  have g199 : M11 199 = E.tb := by rw [kq12.2.2 199 (by decide), eM9, ask_ne (by decide), eM7, ask_ne (by decide), eM5, ask_ne (by decide), eM3, ask_ne (by decide), eM1, ask_ne (by decide)]; exact hE1
  have g8 : M11 200 8 = ((0 : Nat) : Int) := by rw [kq12.2.2 200 (by decide), eM9, up_ne (by decide), eM7, up_s]; rfl
  have g4 : M11 200 4 = E.od := by rw [kq12.2.2 200 (by decide), eM9, up_ne (by decide), eM7, up_ne (by decide), eM5, up_ne (by decide), eM3, up_s]; exact hasd
  have g5 : M11 200 5 = ((0 : Nat) : Int) := by rw [kq12.2.2 200 (by decide), eM9, up_ne (by decide), eM7, up_ne (by decide), eM5, up_s]; rfl
  have g1 : M11 200 1 = -1 := by rw [kq12.2.2 200 (by decide), eM9, up_s]
  have g202 : M11 202 = M0 202 := by rw [kq12.2.2 202 (by decide), eM9, ask_ne (by decide), eM7, ask_ne (by decide), eM5, ask_ne (by decide), eM3, ask_ne (by decide), eM1, ask_ne (by decide)]
  have g203 : M11 203 = M0 203 := by rw [kq12.2.2 203 (by decide), eM9, ask_ne (by decide), eM7, ask_ne (by decide), eM5, ask_ne (by decide), eM3, ask_ne (by decide), eM1, ask_ne (by decide)]
  have g204 : M11 204 = M0 204 := by rw [kq12.2.2 204 (by decide), eM9, ask_ne (by decide), eM7, ask_ne (by decide), eM5, ask_ne (by decide), eM3, ask_ne (by decide), eM1, ask_ne (by decide)]
  have t3 : M11 201 3 = ((0 : Nat) : Int) := p3_M11
  have t4 : M11 201 4 = ((0 : Nat) : Int) := p4_M11
  have t5 : M11 201 5 = 0 := p5_M11
  obtain ⟨M14, ⟨kq15, p7, p8, p6, p9, fkk⟩, hcM14⟩ := ct_Reader_next (xs := xs) (L := L) (d := d) (by omega) hW q12.1 q12.2.1 g3 hE3 g199 hE4 (Nat.zero_le _) g8
  have q15 := qk_trm q12 kq15 (by decide)
  have hSi : CS M14 E 0 (cS0 (M0 202) (M0 203)) := by
    refine ⟨⟨(fkk 3 (by decide)).trans g3, hE3, (kq15.2.2 199 (by decide)).trans g199, hE4, Nat.zero_le _, p7, p8, p6, p9⟩, (fkk 4 (by decide)).trans g4, hod, (fkk 5 (by decide)).trans g5, ?_, (kq15.2.2 202 (by decide)).trans g202, (kq15.2.2 203 (by decide)).trans g203, ?_, (fkk 1 (by decide)).trans g1, by show (0 : Nat) ≤ 50; omega, by show (0 : Nat) ≤ 400; omega, ?_, Or.inl rfl⟩
    · rw [kq15.2.2 201 (by decide)]; exact t3
    · rw [kq15.2.2 201 (by decide)]; exact t5
    · rw [kq15.2.2 201 (by decide)]; exact t4
  have hGi : M14 204 = M0 204 := (kq15.2.2 204 (by decide)).trans g204
  refine rr_cV0 pf_57_42 po_57 pc_3_57 (ws_200 hW) po_59 (by decide) rfl hcM14 ?_
  refine rr_aload_n pf_57_45 rfl ?_
  obtain ⟨M16, ⟨kq17, pSM16, pgM16⟩, hcM16⟩ := ct_CS_clause (xs := xs) (L := L) (d := d) (E := E) (cl := 0) (s := (cS0 (M0 202) (M0 203))) (g := (M0 204)) (by omega) hW q15.1 q15.2.1 hSi (by omega) hGi
  have q17 := qk_trm q15 kq17 (by decide)
  refine rr_cV0 pf_57_46 po_57 pc_3_60 (ws_200 hW) po_61 (by decide) rfl hcM16 ?_
  refine rr_istore_n pf_57_49 (fun y => [.ref 200, .int (iI (((E.tn : Nat) : Int))), .int (iI (asd)), .int (iI (y)), px_jk, px_jk]) (Nat.le_of_ble_eq_true rfl) (fun _ => rfl) (fun y18 hy18 => ?_)
  have ry18 := bI_rg ((cCl E 0 (cS0 (M0 202) (M0 203)) (M0 204)).1 = true)
  refine rr_iconst pf_57_50 ?_
  refine rr_istore pf_57_51 (fun y => [.ref 200, .int (iI (((E.tn : Nat) : Int))), .int (iI (asd)), .int (iI (y18)), .int (iI (y)), px_jk]) (Nat.le_of_ble_eq_true rfl) (fun _ => rfl) (fun y19 hy19 => ?_)
  obtain ⟨nz20, hnz20, rfl⟩ : ∃ zz : Nat, zz = 0 ∧ y19 = ((zz : Nat) : Int) := ⟨0, rfl, by omega⟩
  refine lp_CS_reads_53 (xs := xs) (L := L) (d := d) (by omega) hW (R0 := (cOf 0 (cCl E 0 (cS0 (M0 202) (M0 203)) (M0 204)))) (fun r_21 fi_22 j_23 v26 M24 q25 xS_M24 xG_M24 xF_M24 xE_M24 xc_M24 => ?_) _ (cOf 0 (cCl E 0 (cS0 (M0 202) (M0 203)) (M0 204))) y18 nz20 _ M16 rfl q17 (by omega) (pSM16) (pgM16) (by rw [hy18]; exact fIs_b _) (cOf_b (by omega)) (by rw [show nz20 = 0 by omega])
  have hxe : cRead E (M0 202) (M0 203) (M0 204) = r_21 := xE_M24
  have hyv : fi_22 = bI ((cRead E (M0 202) (M0 203) (M0 204)).1 = true) := by
    rw [hxe]; rcases xF_M24 with z | z
    · rw [bI_t z.2]; exact z.1
    · rw [bI_f (by rw [z.2]; decide)]; exact z.1
  have hx01 := fIs_01 xF_M24
  refine rr_iload_n pf_57_124 rfl ?_
  refine rr_zret pf_57_125 pt_57 (by first | exact Or.inl rfl | exact Or.inr rfl | omega) ⟨by congr 3; try exact hyv, M24, rfl, q25, (by rw [hxe]; exact xS_M24), (by rw [hxe]; exact xG_M24), (by rw [hxe]; exact xc_M24)⟩

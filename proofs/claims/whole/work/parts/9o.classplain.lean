/-! the class's reader: sums by depth; plain tests -/
section RDD
variable {xs : Nat → Int} {L : Nat} {sh : List (Nat × Nat)} {E : rdE} {cl : Nat}
theorem rdC_up {k dep : Nat} {f : cS → Bool × cS} {a b : Nat} (h : rdC xs L sh E cl k dep f a) (hab : a ≤ b) : rdC xs L sh E cl k dep f b := fun d M0 s hd => h d M0 s (Nat.le_trans hab hd)
theorem rd_sum (hW : px_W0 <+: sh) : ∀ D, D ≤ 8 → rdC xs L sh E cl 74 (8 - D) (cSm E D) (10 + 3 * D) := by
  intro D
  induction D with
  | zero =>
    intro _
    have hp : rdC xs L sh E cl 76 8 (cPrt E none) 8 := fun d M0 s hd hF hG hs => ct_CS_part (dd := 0) hd hW hF hG hs (Nat.le_refl 8) ⟨fun _ => Nat.le_refl 8, fun _ => rfl⟩ (fun f hf => by cases hf) (by omega)
    have ht : rdC xs L sh E cl 75 8 (cTrm E none) 9 := fun d M0 s hd hF hG hs => ct_CS_term (by omega) hW hF hG hs hp (by omega)
    exact fun d M0 s hd hF hG hs => ct_CS_sum (by omega) hW hF hG hs ht (by omega)
  | succ D ih =>
    intro hD
    have hi := ih (by omega)
    have hp : rdC xs L sh E cl 76 (8 - (D + 1)) (cPrt E (some (cSm E D))) (10 + 3 * D + 1) := fun d M0 s hd hF hG hs => ct_CS_part (by omega) hW hF hG hs (by omega) ⟨(fun z => by cases z), (fun z => by omega)⟩ (fun f hf => by cases hf; rw [show 8 - (D + 1) + 1 = 8 - D by omega]; exact hi) (by omega)
    have ht : rdC xs L sh E cl 75 (8 - (D + 1)) (cTrm E (some (cSm E D))) (10 + 3 * D + 2) := fun d M0 s hd hF hG hs => ct_CS_term (by omega) hW hF hG hs hp (by omega)
    exact fun d M0 s hd hF hG hs => ct_CS_sum (by omega) hW hF hG hs ht (by omega)
end RDD
def nLp (E : rdE) : Nat → Bool × cS → Bool × cS
  | 0, r => r
  | f + 1, r => if cwd E 10 r.2 then nLp E f (!r.1, cnx E r.2) else r
theorem nLp_e {E : rdE} {r : Bool × cS} (h : ¬ cwd E 10 r.2) : ∀ f, nLp E f r = r := by
  intro f
  cases f with
  | zero => rfl
  | succ f => rw [nLp, if_neg h]
def cPb (E : rdE) (nest : Option (cS → Bool × cS)) (sm : cS → Bool × cS) (s : cS) : Bool × cS := if csg E 40 s then (match nest with
    | none => (false, cfl E s)
    | some f => if (f (cnx E s)).1 = true then (if csg E 41 (f (cnx E s)).2 then (true, cnx E (f (cnx E s)).2) else (false, cfl E (f (cnx E s)).2)) else (false, (f (cnx E s)).2))
  else if (sm s).1 = true then (if sgO E 11 10 (sm s).2 = -1 then (false, cfl E (sm s).2) else ((sm (cnx E (sm s).2)).1, cad (sgO E 11 10 (sm s).2) 0 (sm (cnx E (sm s).2)).2)) else (false, (sm s).2)
def cFin (t : Bool) (b : Bool × cS) : Bool × cS := if b.1 = true ∧ t = true then (true, cad 2 0 b.2) else b
def cPln (E : rdE) (nest : Option (cS → Bool × cS)) (sm : cS → Bool × cS) (s : cS) : Bool × cS := cFin (nLp E 400 (false, s)).1 (cPb E nest sm (nLp E 400 (false, s)).2)
theorem lp_CS_plain_4 {xs : Nat → Int} {L d : Nat} {sh : List (Nat × Nat)} (hd : 7 ≤ d) (hW : px_W0 <+: sh) {M0 : Nat → Nat → Int}  {E : rdE} {cl : Nat} {s : cS} (hs : CS M0 E cl s) {dep : Nat}  {Q : Option Value → px_H → Prop} (kx : ∀ (r : Bool × cS) (tu : Int) (j : Nat) (v4 : Value) (M : Nat → Nat → Int), px_qk sh [200, 201, 202, 203] M0 M → (CS M E cl r.2) → (nLp E 400 (false, s) = r) → ((tu = 1 ∧ r.1 = true) ∨ (tu = 0 ∧ r.1 = false)) → px_R xs L d 89 (40, [.ref 200, .int (iI (((dep : Nat) : Int))), .int (iI (tu)), .int (iI (((j : Nat) : Int))), v4], [], (sh, M)) Q)  : ∀ (mz : Nat) (r : Bool × cS) (tu : Int) (j : Nat) (v4 : Value) (M : Nat → Nat → Int), 400 - j = mz → px_qk sh [200, 201, 202, 203] M0 M → (j ≤ 400) → (CS M E cl r.2) → ((tu = 1 ∧ r.1 = true) ∨ (tu = 0 ∧ r.1 = false)) → (nLp E 400 (false, s) = nLp E (400 - j) r) → px_R xs L d 89 (4, [.ref 200, .int (iI (((dep : Nat) : Int))), .int (iI (tu)), .int (iI (((j : Nat) : Int))), v4], [], (sh, M)) Q := by
  intro mz
  induction mz using Nat.strongRecOn with
  | _ mz ih =>
    intro r tu j v4 M hm hq hj hS hfi hE
    refine rr_iload_n pf_89_4 rfl ?_
    refine rr_sipush pf_89_5 (by decide) ?_
    refine rr_icmp_ge 40 pf_89_8 (by decide) (by unfold rg; omega) (by unfold rg; omega) (fun c1 => ?_) (fun c1 => ?_)
    · exact kx r tu j _ M hq (hS) (by rw [hE, show 400 - j = 0 by omega]; rfl) (hfi)
    · refine rr_aload_n pf_89_11 rfl ?_
      refine rr_ldcS pf_89_12 po_89 ps_3_140.1 ps_3_140.2 ?_
      obtain ⟨M2, ⟨kq3, pSM2⟩, hcM2⟩ := ct_CS_isWord (xs := xs) (L := L) (d := d) (E := E) (cl := cl) (s := r.2) (t := 10) (by omega) hW hq.1 hq.2.1 hS (by decide) let_10 hwD_10 (by decide +kernel)
      obtain rfl := qk_nil kq3
      refine rr_cV1 pf_89_14 po_89 pc_3_100 (ws_200 hW) po_85 (by decide) rfl hcM2 ?_
      refine rr_ifb_eq 40 pf_89_17 (by decide) (fun c4 => ?_) (fun c4 => ?_)
      · have hcs := c4
        exact kx r tu j _ M hq (hS) (by rw [hE]; exact nLp_e hcs _) (hfi)
      · have hcs := c4
        refine rr_iload_n pf_89_20 rfl ?_
        refine rr_if_ne 28 pf_89_21 (by decide) (by unfold rg; omega) (fun c5 => ?_) (fun c5 => ?_)
        · refine rr_iconst pf_89_28 ?_
          refine rr_istore_n pf_89_29 (fun y => [.ref 200, .int (iI (((dep : Nat) : Int))), .int (iI (y)), .int (iI (((j : Nat) : Int))), v4]) (Nat.le_of_ble_eq_true rfl) (fun _ => rfl) (fun y6 hy6 => ?_)
          refine rr_aload_n pf_89_30 rfl ?_
          obtain ⟨M7, ⟨kq8, pSM7⟩, hcM7⟩ := ct_CS_next (xs := xs) (L := L) (d := d) (E := E) (cl := cl) (s := ((r.2))) (by omega) hW hq.1 hq.2.1 pSM2 
          have q8 := qk_trm hq kq8 (by decide)
          refine rr_cV0 pf_89_31 po_89 pc_3_57 (ws_200 hW) po_59 (by decide) rfl hcM7 ?_
          refine rr_iinc pf_89_34 rfl (fun y => [.ref 200, .int (iI (((dep : Nat) : Int))), .int (iI (y6)), .int (iI (y)), v4]) (fun _ => rfl) (fun y9 hy9 => ?_)
          refine rr_goto 4 pf_89_37 (by decide) ?_
          obtain ⟨nz10, hnz10, rfl⟩ : ∃ zz : Nat, zz = 1 + j ∧ y9 = ((zz : Nat) : Int) := ⟨1 + j, rfl, by omega⟩
          exact ih _ (by omega) (!r.1, cnx E r.2) y6 nz10 _ M7 rfl q8 (by omega) (pSM7) (by
                          rcases hfi with z | z
                          · exact Or.inr ⟨hy6, by show (!r.1) = false; rw [z.2]; rfl⟩
                          · omega) (by rw [hE, show 400 - j = (400 - nz10) + 1 by omega, nLp, if_pos hcs])
        · refine rr_iconst pf_89_24 ?_
          refine rr_goto 29 pf_89_25 (by decide) ?_
          refine rr_istore_n pf_89_29 (fun y => [.ref 200, .int (iI (((dep : Nat) : Int))), .int (iI (y)), .int (iI (((j : Nat) : Int))), v4]) (Nat.le_of_ble_eq_true rfl) (fun _ => rfl) (fun y11 hy11 => ?_)
          refine rr_aload_n pf_89_30 rfl ?_
          obtain ⟨M12, ⟨kq13, pSM12⟩, hcM12⟩ := ct_CS_next (xs := xs) (L := L) (d := d) (E := E) (cl := cl) (s := ((r.2))) (by omega) hW hq.1 hq.2.1 pSM2 
          have q13 := qk_trm hq kq13 (by decide)
          refine rr_cV0 pf_89_31 po_89 pc_3_57 (ws_200 hW) po_59 (by decide) rfl hcM12 ?_
          refine rr_iinc pf_89_34 rfl (fun y => [.ref 200, .int (iI (((dep : Nat) : Int))), .int (iI (y11)), .int (iI (y)), v4]) (fun _ => rfl) (fun y14 hy14 => ?_)
          refine rr_goto 4 pf_89_37 (by decide) ?_
          obtain ⟨nz15, hnz15, rfl⟩ : ∃ zz : Nat, zz = 1 + j ∧ y14 = ((zz : Nat) : Int) := ⟨1 + j, rfl, by omega⟩
          exact ih _ (by omega) (!r.1, cnx E r.2) y11 nz15 _ M12 rfl q13 (by omega) (pSM12) (by
                          rcases hfi with z | z
                          · omega
                          · exact Or.inl ⟨hy11, by show (!r.1) = true; rw [z.2]; rfl⟩) (by rw [hE, show 400 - j = (400 - nz15) + 1 by omega, nLp, if_pos hcs])
theorem ct_CS_plain {xs : Nat → Int} {L d : Nat} {sh : List (Nat × Nat)} {M0 : Nat → Nat → Int} (hd : 8 ≤ d) (hW : px_W0 <+: sh) (hF : px_Fx M0) (hG : px_RG sh M0)  {E : rdE} {cl : Nat} {s : cS} (hs : CS M0 E cl s) {nest : Option (cS → Bool × cS)} {sm : cS → Bool × cS} {dep dd : Nat} (hdep : dep ≤ 8) (hnn : nest = none ↔ 8 ≤ dep) (IH : ∀ f, nest = some f → rdC xs L sh E cl 87 (dep + 1) f dd) (IHs : rdC xs L sh E cl 74 dep sm dd) (hdd : dd + 1 ≤ d) : ∃ M, (px_qk sh [200, 201, 202, 203] M0 M ∧ (CS M E cl (cPln E nest sm s).2)) ∧ px_Cl xs L d 89 [.ref 200, .int (iI (((dep : Nat) : Int)))] (sh, M0) (some (.int (iI (bI ((cPln E nest sm s).1 = true))))) (sh, M) := by
  obtain ⟨d, rfl⟩ : ∃ e, d = e + 1 := ⟨d - 1, by omega⟩
  have q0 : px_qk sh [200, 201, 202, 203] M0 M0 := ⟨hF, hG, eo_rf⟩
  refine vc_n (Nat.le_of_ble_eq_true rfl) ?_
  show px_R xs L d 89 (0, [.ref 200, .int (iI (((dep : Nat) : Int))), px_jk, px_jk, px_jk], [], (sh, M0)) (fun r h' => r = some (.int (iI (bI ((cPln E nest sm s).1 = true)))) ∧ ∃ M', h' = (sh, M') ∧ px_qk sh [200, 201, 202, 203] M0 M' ∧ CS M' E cl (cPln E nest sm s).2)
  refine rr_iconst pf_89_0 ?_
  refine rr_istore_n pf_89_1 (fun y => [.ref 200, .int (iI (((dep : Nat) : Int))), .int (iI (y)), px_jk, px_jk]) (Nat.le_of_ble_eq_true rfl) (fun _ => rfl) (fun y1 hy1 => ?_)
  refine rr_iconst pf_89_2 ?_
  refine rr_istore_n pf_89_3 (fun y => [.ref 200, .int (iI (((dep : Nat) : Int))), .int (iI (y1)), .int (iI (y)), px_jk]) (Nat.le_of_ble_eq_true rfl) (fun _ => rfl) (fun y2 hy2 => ?_)
  obtain ⟨nz3, hnz3, rfl⟩ : ∃ zz : Nat, zz = 0 ∧ y2 = ((zz : Nat) : Int) := ⟨0, rfl, by omega⟩
  refine lp_CS_plain_4 (xs := xs) (L := L) (d := d) (by omega) hW hs (fun r_4 tu_5 j_6 v9 M7 q8 xS_M7 xE_M7 xf_M7 => ?_) _ (false, s) y1 nz3 _ M0 rfl q0 (by omega) (hs) (Or.inr ⟨hy1, rfl⟩) (by rw [show nz3 = 0 by omega])
  obtain ⟨R, hR⟩ : ∃ z, z = r_4.2 := ⟨_, rfl⟩
  have hSR := xS_M7
  rw [← hR] at hSR
  have hxE := xE_M7
  have hxf := xf_M7
  refine rr_aload_n pf_89_40 rfl ?_
  refine rr_bipush pf_89_41 (by decide) ?_
  obtain ⟨M10, ⟨kq11, pSM10⟩, hcM10⟩ := ct_CS_isSign (xs := xs) (L := L) (d := d) (E := E) (cl := cl) (s := R) (c := 40) (by omega) hW q8.1 q8.2.1 hSR (by omega)
  obtain rfl := qk_nil kq11
  refine rr_cV1 pf_89_43 po_89 pc_3_64 (ws_200 hW) po_77 (by decide) rfl hcM10 ?_
  refine rr_ifb_eq 85 pf_89_46 (by decide) (fun c12 => ?_) (fun c12 => ?_)
  · have hcp := c12
    refine rr_aload_n pf_89_85 rfl ?_
    refine rr_iload_n pf_89_86 rfl ?_
    obtain ⟨M13, ⟨kq14, pSM13⟩, hcM13⟩ := IHs d M7 (R) (by omega) q8.1 q8.2.1 pSM10
    have q14 := qk_trm q8 kq14 (by decide)
    refine rr_cV1 pf_89_87 po_89 pc_3_121 (ws_200 hW) po_74 (by decide) rfl hcM13 ?_
    refine rr_istore_n pf_89_90 (fun y => [.ref 200, .int (iI (((dep : Nat) : Int))), .int (iI (tu_5)), .int (iI (y)), v9]) (Nat.le_of_ble_eq_true rfl) (fun _ => rfl) (fun y15 hy15 => ?_)
    have ry15 := bI_rg ((sm (R)).1 = true)
    have hq1 := bI_dj (sm R).1
    rw [← hy15] at hq1
    refine rr_aload_n pf_89_91 rfl ?_
    refine rr_ldcS pf_89_92 po_89 ps_3_148.1 ps_3_148.2 ?_
    refine rr_bipush pf_89_94 (by decide) ?_
    obtain ⟨r18, M16, ⟨kq17, pvM16⟩, hcM16⟩ := ct_Reader_signIn (xs := xs) (L := L) (d := d) (t := 11) (fo := 10) (by omega) hW q14.1 q14.2.1 pSM13.lx (by decide) (by omega)
    obtain rfl := qk_nil kq17
    have hsbr18 := sgF_b2 (t := 11) (by decide) (K := tkK E.tn E.tb ((sm (R)).2).i) (W := tkW E.tn E.tb ((sm (R)).2).i) (fo := 10) (by omega)
    refine rr_cV2 pf_89_96 po_89 pc_3_150 (ws_200 hW) po_83 (by decide) rfl hcM16 ?_
    refine rr_istore pf_89_99 (fun y => [.ref 200, .int (iI (((dep : Nat) : Int))), .int (iI (tu_5)), .int (iI (y15)), .int (iI (y))]) (Nat.le_of_ble_eq_true rfl) (fun _ => rfl) (fun y19 hy19 => ?_)
    have hop : y19 = sgO E 11 10 (sm R).2 := by rw [hy19]; exact pvM16
    refine rr_iload_n pf_89_101 rfl ?_
    refine rr_if_eq 116 pf_89_102 (by decide) (by unfold rg; omega) (fun c20 => ?_) (fun c20 => ?_)
    · refine rr_iload_n pf_89_116 rfl ?_
      refine rr_if_eq 140 pf_89_117 (by decide) (by unfold rg; omega) (fun c21 => ?_) (fun c21 => ?_)
      · have hq2 : ¬ (sm R).1 = true := by
          rcases hq1 with z | z
          · omega
          · rw [z.2]; decide
        have hB : cPb E nest sm R = (false, (sm R).2) := by
          unfold cPb
          rw [if_neg hcp, if_neg hq2]
        have hP : cPln E nest sm s = cFin r_4.1 (cPb E nest sm R) := by
          unfold cPln
          rw [hxE, ← hR]
        refine rr_iload_n pf_89_140 rfl ?_
        refine rr_if_eq 157 pf_89_141 (by decide) (by unfold rg; omega) (fun c22 => ?_) (fun c22 => ?_)
        · have hng : ¬ ((false : Bool) = true ∧ r_4.1 = true) := by
            intro z
            have z1 := z.1
            cases z1
          have hQ2 : cPln E nest sm s = (false, (sm (R)).2) := by
            rw [hP, hB]; unfold cFin
            rw [if_neg hng]
          have hyv : y15 = bI ((cPln E nest sm s).1 = true) := by
            rw [hQ2, bI_f (fun z => by cases z)]; omega
          refine rr_iload_n pf_89_157 rfl ?_
          refine rr_zret pf_89_158 pt_89 (by first | exact Or.inl rfl | exact Or.inr rfl | omega) ⟨by congr 3; try exact hyv, M13, rfl, q14, (by rw [hQ2]; exact pSM13)⟩
        · exfalso; omega
      · refine rr_aload_n pf_89_120 rfl ?_
        obtain ⟨M23, ⟨kq24, pSM23⟩, hcM23⟩ := ct_CS_next (xs := xs) (L := L) (d := d) (E := E) (cl := cl) (s := (sm (R)).2) (by omega) hW q14.1 q14.2.1 pSM13 
        have q24 := qk_trm q14 kq24 (by decide)
        refine rr_cV0 pf_89_121 po_89 pc_3_57 (ws_200 hW) po_59 (by decide) rfl hcM23 ?_
        refine rr_aload_n pf_89_124 rfl ?_
        refine rr_iload_n pf_89_125 rfl ?_
        obtain ⟨M25, ⟨kq26, pSM25⟩, hcM25⟩ := IHs d M23 (cnx E ((sm (R)).2)) (by omega) q24.1 q24.2.1 pSM23
        have q26 := qk_trm q24 kq26 (by decide)
        refine rr_cV1 pf_89_126 po_89 pc_3_121 (ws_200 hW) po_74 (by decide) rfl hcM25 ?_
        refine rr_istore_n pf_89_129 (fun y => [.ref 200, .int (iI (((dep : Nat) : Int))), .int (iI (tu_5)), .int (iI (y)), .int (iI (y19))]) (Nat.le_of_ble_eq_true rfl) (fun _ => rfl) (fun y27 hy27 => ?_)
        have ry27 := bI_rg ((sm (cnx E ((sm (R)).2))).1 = true)
        have hq3 := bI_dj (sm (cnx E (sm R).2)).1
        rw [← hy27] at hq3
        refine rr_aload_n pf_89_130 rfl ?_
        refine rr_getR pf_89_131 po_89 pg_3_14 rfl (ws_200 hW) (by decide) (wr_200_0 q26.1) ?_
        refine rr_iload pf_89_134 rfl ?_
        refine rr_iconst pf_89_136 ?_
        obtain ⟨M28, ⟨kq29, pSM28⟩, hcM28⟩ := ct_CS_add (xs := xs) (L := L) (d := d) (E := E) (cl := cl) (s := (sm (cnx E ((sm (R)).2))).2) (op := y19) (arg := 0) (by omega) hW q26.1 q26.2.1 pSM25 (by unfold rg; omega) (by unfold rg; omega)
        have q29 := qk_trm q26 kq29 (by decide)
        refine rr_cV2 pf_89_137 po_89 pc_3_129 (ws_201 hW) po_80 (by decide) rfl hcM28 ?_
        have hq2 : (sm R).1 = true := by
          rcases hq1 with z | z
          · exact z.2
          · omega
        have hB : cPb E nest sm R = ((sm (cnx E (sm R).2)).1, cad y19 0 (sm (cnx E (sm R).2)).2) := by
          unfold cPb
          rw [if_neg hcp, if_pos hq2, if_neg (by omega), ← hop]
        have hP : cPln E nest sm s = cFin r_4.1 (cPb E nest sm R) := by
          unfold cPln
          rw [hxE, ← hR]
        refine rr_iload_n pf_89_140 rfl ?_
        refine rr_if_eq 157 pf_89_141 (by decide) (by unfold rg; omega) (fun c30 => ?_) (fun c30 => ?_)
        · have hng : ¬ ((sm (cnx E (sm R).2)).1 = true ∧ r_4.1 = true) := by
            intro z
            have z1 := z.1
            rcases hq3 with u | u
            · omega
            · rw [u.2] at z1; cases z1
          have hQ2 : cPln E nest sm s = ((sm (cnx E (sm R).2)).1, (cad y19 0 ((sm (cnx E ((sm (R)).2))).2))) := by
            rw [hP, hB]; unfold cFin
            rw [if_neg hng]
          have hyv : y27 = bI ((cPln E nest sm s).1 = true) := by
            rw [hQ2]; rcases hq3 with u | u
            · rw [bI_t u.2]; exact u.1
            · rw [bI_f (by rw [u.2]; decide)]; exact u.1
          refine rr_iload_n pf_89_157 rfl ?_
          refine rr_zret pf_89_158 pt_89 (by first | exact Or.inl rfl | exact Or.inr rfl | omega) ⟨by congr 3; try exact hyv, M28, rfl, q29, (by rw [hQ2]; exact pSM28)⟩
        · refine rr_iload_n pf_89_144 rfl ?_
          refine rr_if_eq 157 pf_89_145 (by decide) (by unfold rg; omega) (fun c31 => ?_) (fun c31 => ?_)
          · have hng : ¬ ((sm (cnx E (sm R).2)).1 = true ∧ r_4.1 = true) := by
              intro z
              have z1 := z.2
              rcases hxf with u | u
              · omega
              · rw [u.2] at z1; cases z1
            have hQ2 : cPln E nest sm s = ((sm (cnx E (sm R).2)).1, (cad y19 0 ((sm (cnx E ((sm (R)).2))).2))) := by
              rw [hP, hB]; unfold cFin
              rw [if_neg hng]
            have hyv : y27 = bI ((cPln E nest sm s).1 = true) := by
              rw [hQ2]; rcases hq3 with u | u
              · rw [bI_t u.2]; exact u.1
              · rw [bI_f (by rw [u.2]; decide)]; exact u.1
            refine rr_iload_n pf_89_157 rfl ?_
            refine rr_zret pf_89_158 pt_89 (by first | exact Or.inl rfl | exact Or.inr rfl | omega) ⟨by congr 3; try exact hyv, M28, rfl, q29, (by rw [hQ2]; exact pSM28)⟩
          · refine rr_aload_n pf_89_148 rfl ?_
            refine rr_getR pf_89_149 po_89 pg_3_14 rfl (ws_200 hW) (by decide) (wr_200_0 q29.1) ?_
            refine rr_iconst pf_89_152 ?_
            refine rr_iconst pf_89_153 ?_
            obtain ⟨M32, ⟨kq33, pSM32⟩, hcM32⟩ := ct_CS_add (xs := xs) (L := L) (d := d) (E := E) (cl := cl) (s := (cad y19 0 ((sm (cnx E ((sm (R)).2))).2))) (op := 2) (arg := 0) (by omega) hW q29.1 q29.2.1 pSM28 (by unfold rg; omega) (by unfold rg; omega)
            have q33 := qk_trm q29 kq33 (by decide)
            refine rr_cV2 pf_89_154 po_89 pc_3_129 (ws_201 hW) po_80 (by decide) rfl hcM32 ?_
            have htr : r_4.1 = true := by
              rcases hxf with z | z
              · exact z.2
              · omega
            have hq4 : (sm (cnx E (sm R).2)).1 = true := by
              rcases hq3 with z | z
              · exact z.2
              · omega
            have hQ2 : cPln E nest sm s = (true, (cad 2 0 (cad y19 0 ((sm (cnx E ((sm (R)).2))).2)))) := by
              rw [hP, hB]; unfold cFin; rw [if_pos ⟨hq4, htr⟩]
            have hyv : y27 = bI ((cPln E nest sm s).1 = true) := by rw [hQ2, bI_t rfl]; omega
            refine rr_iload_n pf_89_157 rfl ?_
            refine rr_zret pf_89_158 pt_89 (by first | exact Or.inl rfl | exact Or.inr rfl | omega) ⟨by congr 3; try exact hyv, M32, rfl, q33, (by rw [hQ2]; exact pSM32)⟩
    · refine rr_iload pf_89_105 rfl ?_
      refine rr_iconst pf_89_107 ?_
      refine rr_icmp_ne 116 pf_89_108 (by decide) (by unfold rg; omega) (by unfold rg; omega) (fun c34 => ?_) (fun c34 => ?_)
      · refine rr_iload_n pf_89_116 rfl ?_
        refine rr_if_eq 140 pf_89_117 (by decide) (by unfold rg; omega) (fun c35 => ?_) (fun c35 => ?_)
        · have hq2 : ¬ (sm R).1 = true := by
            rcases hq1 with z | z
            · omega
            · rw [z.2]; decide
          have hB : cPb E nest sm R = (false, (sm R).2) := by
            unfold cPb
            rw [if_neg hcp, if_neg hq2]
          have hP : cPln E nest sm s = cFin r_4.1 (cPb E nest sm R) := by
            unfold cPln
            rw [hxE, ← hR]
          refine rr_iload_n pf_89_140 rfl ?_
          refine rr_if_eq 157 pf_89_141 (by decide) (by unfold rg; omega) (fun c36 => ?_) (fun c36 => ?_)
          · have hng : ¬ ((false : Bool) = true ∧ r_4.1 = true) := by
              intro z
              have z1 := z.1
              cases z1
            have hQ2 : cPln E nest sm s = (false, (sm (R)).2) := by
              rw [hP, hB]; unfold cFin
              rw [if_neg hng]
            have hyv : y15 = bI ((cPln E nest sm s).1 = true) := by
              rw [hQ2, bI_f (fun z => by cases z)]; omega
            refine rr_iload_n pf_89_157 rfl ?_
            refine rr_zret pf_89_158 pt_89 (by first | exact Or.inl rfl | exact Or.inr rfl | omega) ⟨by congr 3; try exact hyv, M13, rfl, q14, (by rw [hQ2]; exact pSM13)⟩
          · exfalso; omega
        · refine rr_aload_n pf_89_120 rfl ?_
          obtain ⟨M37, ⟨kq38, pSM37⟩, hcM37⟩ := ct_CS_next (xs := xs) (L := L) (d := d) (E := E) (cl := cl) (s := (sm (R)).2) (by omega) hW q14.1 q14.2.1 pSM13 
          have q38 := qk_trm q14 kq38 (by decide)
          refine rr_cV0 pf_89_121 po_89 pc_3_57 (ws_200 hW) po_59 (by decide) rfl hcM37 ?_
          refine rr_aload_n pf_89_124 rfl ?_
          refine rr_iload_n pf_89_125 rfl ?_
          obtain ⟨M39, ⟨kq40, pSM39⟩, hcM39⟩ := IHs d M37 (cnx E ((sm (R)).2)) (by omega) q38.1 q38.2.1 pSM37
          have q40 := qk_trm q38 kq40 (by decide)
          refine rr_cV1 pf_89_126 po_89 pc_3_121 (ws_200 hW) po_74 (by decide) rfl hcM39 ?_
          refine rr_istore_n pf_89_129 (fun y => [.ref 200, .int (iI (((dep : Nat) : Int))), .int (iI (tu_5)), .int (iI (y)), .int (iI (y19))]) (Nat.le_of_ble_eq_true rfl) (fun _ => rfl) (fun y41 hy41 => ?_)
          have ry41 := bI_rg ((sm (cnx E ((sm (R)).2))).1 = true)
          have hq3 := bI_dj (sm (cnx E (sm R).2)).1
          rw [← hy41] at hq3
          refine rr_aload_n pf_89_130 rfl ?_
          refine rr_getR pf_89_131 po_89 pg_3_14 rfl (ws_200 hW) (by decide) (wr_200_0 q40.1) ?_
          refine rr_iload pf_89_134 rfl ?_
          refine rr_iconst pf_89_136 ?_
          obtain ⟨M42, ⟨kq43, pSM42⟩, hcM42⟩ := ct_CS_add (xs := xs) (L := L) (d := d) (E := E) (cl := cl) (s := (sm (cnx E ((sm (R)).2))).2) (op := y19) (arg := 0) (by omega) hW q40.1 q40.2.1 pSM39 (by unfold rg; omega) (by unfold rg; omega)
          have q43 := qk_trm q40 kq43 (by decide)
          refine rr_cV2 pf_89_137 po_89 pc_3_129 (ws_201 hW) po_80 (by decide) rfl hcM42 ?_
          have hq2 : (sm R).1 = true := by
            rcases hq1 with z | z
            · exact z.2
            · omega
          have hB : cPb E nest sm R = ((sm (cnx E (sm R).2)).1, cad y19 0 (sm (cnx E (sm R).2)).2) := by
            unfold cPb
            rw [if_neg hcp, if_pos hq2, if_neg (by omega), ← hop]
          have hP : cPln E nest sm s = cFin r_4.1 (cPb E nest sm R) := by
            unfold cPln
            rw [hxE, ← hR]
          refine rr_iload_n pf_89_140 rfl ?_
          refine rr_if_eq 157 pf_89_141 (by decide) (by unfold rg; omega) (fun c44 => ?_) (fun c44 => ?_)
          · have hng : ¬ ((sm (cnx E (sm R).2)).1 = true ∧ r_4.1 = true) := by
              intro z
              have z1 := z.1
              rcases hq3 with u | u
              · omega
              · rw [u.2] at z1; cases z1
            have hQ2 : cPln E nest sm s = ((sm (cnx E (sm R).2)).1, (cad y19 0 ((sm (cnx E ((sm (R)).2))).2))) := by
              rw [hP, hB]; unfold cFin
              rw [if_neg hng]
            have hyv : y41 = bI ((cPln E nest sm s).1 = true) := by
              rw [hQ2]; rcases hq3 with u | u
              · rw [bI_t u.2]; exact u.1
              · rw [bI_f (by rw [u.2]; decide)]; exact u.1
            refine rr_iload_n pf_89_157 rfl ?_
            refine rr_zret pf_89_158 pt_89 (by first | exact Or.inl rfl | exact Or.inr rfl | omega) ⟨by congr 3; try exact hyv, M42, rfl, q43, (by rw [hQ2]; exact pSM42)⟩
          · refine rr_iload_n pf_89_144 rfl ?_
            refine rr_if_eq 157 pf_89_145 (by decide) (by unfold rg; omega) (fun c45 => ?_) (fun c45 => ?_)
            · have hng : ¬ ((sm (cnx E (sm R).2)).1 = true ∧ r_4.1 = true) := by
                intro z
                have z1 := z.2
                rcases hxf with u | u
                · omega
                · rw [u.2] at z1; cases z1
              have hQ2 : cPln E nest sm s = ((sm (cnx E (sm R).2)).1, (cad y19 0 ((sm (cnx E ((sm (R)).2))).2))) := by
                rw [hP, hB]; unfold cFin
                rw [if_neg hng]
              have hyv : y41 = bI ((cPln E nest sm s).1 = true) := by
                rw [hQ2]; rcases hq3 with u | u
                · rw [bI_t u.2]; exact u.1
                · rw [bI_f (by rw [u.2]; decide)]; exact u.1
              refine rr_iload_n pf_89_157 rfl ?_
              refine rr_zret pf_89_158 pt_89 (by first | exact Or.inl rfl | exact Or.inr rfl | omega) ⟨by congr 3; try exact hyv, M42, rfl, q43, (by rw [hQ2]; exact pSM42)⟩
            · refine rr_aload_n pf_89_148 rfl ?_
              refine rr_getR pf_89_149 po_89 pg_3_14 rfl (ws_200 hW) (by decide) (wr_200_0 q43.1) ?_
              refine rr_iconst pf_89_152 ?_
              refine rr_iconst pf_89_153 ?_
              obtain ⟨M46, ⟨kq47, pSM46⟩, hcM46⟩ := ct_CS_add (xs := xs) (L := L) (d := d) (E := E) (cl := cl) (s := (cad y19 0 ((sm (cnx E ((sm (R)).2))).2))) (op := 2) (arg := 0) (by omega) hW q43.1 q43.2.1 pSM42 (by unfold rg; omega) (by unfold rg; omega)
              have q47 := qk_trm q43 kq47 (by decide)
              refine rr_cV2 pf_89_154 po_89 pc_3_129 (ws_201 hW) po_80 (by decide) rfl hcM46 ?_
              have htr : r_4.1 = true := by
                rcases hxf with z | z
                · exact z.2
                · omega
              have hq4 : (sm (cnx E (sm R).2)).1 = true := by
                rcases hq3 with z | z
                · exact z.2
                · omega
              have hQ2 : cPln E nest sm s = (true, (cad 2 0 (cad y19 0 ((sm (cnx E ((sm (R)).2))).2)))) := by
                rw [hP, hB]; unfold cFin; rw [if_pos ⟨hq4, htr⟩]
              have hyv : y41 = bI ((cPln E nest sm s).1 = true) := by rw [hQ2, bI_t rfl]; omega
              refine rr_iload_n pf_89_157 rfl ?_
              refine rr_zret pf_89_158 pt_89 (by first | exact Or.inl rfl | exact Or.inr rfl | omega) ⟨by congr 3; try exact hyv, M46, rfl, q47, (by rw [hQ2]; exact pSM46)⟩
      · have hq2 : (sm R).1 = true := by
          rcases hq1 with z | z
          · exact z.2
          · omega
        have hB : cPb E nest sm R = (false, cfl E (sm R).2) := by
          unfold cPb
          rw [if_neg hcp, if_pos hq2, if_pos (by omega)]
        have hP : cPln E nest sm s = cFin r_4.1 (cPb E nest sm R) := by
          unfold cPln
          rw [hxE, ← hR]
        refine rr_aload_n pf_89_111 rfl ?_
        obtain ⟨M48, ⟨kq49, pSM48⟩, hcM48⟩ := ct_CS_fail (xs := xs) (L := L) (d := d) (E := E) (cl := cl) (s := (sm (R)).2) (by omega) hW q14.1 q14.2.1 pSM13 
        have q49 := qk_trm q14 kq49 (by decide)
        refine rr_cV0 pf_89_112 po_89 pc_3_71 (ws_200 hW) po_70 (by decide) rfl hcM48 ?_
        have hQ2 : cPln E nest sm s = (false, (cfl E ((sm (R)).2))) := by
          rw [hP, hB]; unfold cFin; rw [if_neg (fun z => by cases z.1)]
        refine rr_zret pf_89_115 pt_89 (by have := bI_rg (False); omega) ⟨by congr 3; exact bI_c (by rw [hQ2]; exact ⟨False.elim, fun z => by cases z⟩), M48, rfl, q49, (by rw [hQ2]; exact pSM48)⟩
  · have hcp := c12
    refine rr_aload_n pf_89_49 rfl ?_
    refine rr_iload_n pf_89_50 rfl ?_
    obtain ⟨M50, ⟨kq51, pSM50⟩, hcM50⟩ := ct_CS_opened (xs := xs) (L := L) (d := d) (E := E) (cl := cl) (s := (R)) (dp := dep) (by omega) hW q8.1 q8.2.1 pSM10 (by omega)
    have q51 := qk_trm q8 kq51 (by decide)
    refine rr_cV1 pf_89_51 po_89 pc_3_142 (ws_200 hW) po_78 (by decide) rfl hcM50 ?_
    refine rr_ifb_eq 80 pf_89_54 (by decide) (fun c52 => ?_) (fun c52 => ?_)
    · have pS53 := pSM50
      rw [if_neg c52] at pS53
      have hB : cPb E nest sm R = (false, cfl E R) := by
        unfold cPb
        rw [if_pos hcp, hnn.mpr (by omega)]
      refine rr_iconst pf_89_80 ?_
      refine rr_istore_n pf_89_81 (fun y => [.ref 200, .int (iI (((dep : Nat) : Int))), .int (iI (tu_5)), .int (iI (y)), v9]) (Nat.le_of_ble_eq_true rfl) (fun _ => rfl) (fun y54 hy54 => ?_)
      refine rr_goto 140 pf_89_82 (by decide) ?_
      have hP : cPln E nest sm s = cFin r_4.1 (cPb E nest sm R) := by
        unfold cPln
        rw [hxE, ← hR]
      refine rr_iload_n pf_89_140 rfl ?_
      refine rr_if_eq 157 pf_89_141 (by decide) (by unfold rg; omega) (fun c55 => ?_) (fun c55 => ?_)
      · have hng : ¬ ((false : Bool) = true ∧ r_4.1 = true) := by
          intro z
          have z1 := z.1
          cases z1
        have hQ2 : cPln E nest sm s = (false, (cfl E R)) := by
          rw [hP, hB]; unfold cFin
          rw [if_neg hng]
        have hyv : y54 = bI ((cPln E nest sm s).1 = true) := by
          rw [hQ2, bI_f (fun z => by cases z)]; omega
        refine rr_iload_n pf_89_157 rfl ?_
        refine rr_zret pf_89_158 pt_89 (by first | exact Or.inl rfl | exact Or.inr rfl | omega) ⟨by congr 3; try exact hyv, M50, rfl, q51, (by rw [hQ2]; exact pS53)⟩
      · exfalso; omega
    · have pS56 := pSM50
      rw [if_pos c52] at pS56
      obtain ⟨f, hf⟩ : ∃ f, nest = some f := by
        cases hne : nest with
        | none => have := hnn.mp hne; omega
        | some f => exact ⟨f, rfl⟩
      have IHf := IH f hf
      refine rr_aload_n pf_89_57 rfl ?_
      refine rr_iload_n pf_89_58 rfl ?_
      refine rr_iconst pf_89_59 ?_
      refine rr_iadd pf_89_60 ?_
      obtain ⟨M57, ⟨kq58, pSM57⟩, hcM57⟩ := IHf d M50 (cnx E R) (by omega) q51.1 q51.2.1 pS56
      rw [show ((dep + 1 : Nat) : Int) = ((dep : Nat) : Int) + 1 by omega] at hcM57
      have q58 := qk_trm q51 kq58 (by decide)
      refine rr_cV1 pf_89_61 po_89 pc_3_114 (ws_200 hW) po_87 (by decide) rfl hcM57 ?_
      refine rr_ifb_eq 80 pf_89_64 (by decide) (fun c59 => ?_) (fun c59 => ?_)
      · have hr1 := c59
        have hB : cPb E nest sm R = (false, (f (cnx E R)).2) := by
          unfold cPb
          rw [if_pos hcp, hf]
          show (if (f (cnx E R)).1 = true then _ else _) = _
          rw [if_neg hr1]
        refine rr_iconst pf_89_80 ?_
        refine rr_istore_n pf_89_81 (fun y => [.ref 200, .int (iI (((dep : Nat) : Int))), .int (iI (tu_5)), .int (iI (y)), v9]) (Nat.le_of_ble_eq_true rfl) (fun _ => rfl) (fun y60 hy60 => ?_)
        refine rr_goto 140 pf_89_82 (by decide) ?_
        have hP : cPln E nest sm s = cFin r_4.1 (cPb E nest sm R) := by
          unfold cPln
          rw [hxE, ← hR]
        refine rr_iload_n pf_89_140 rfl ?_
        refine rr_if_eq 157 pf_89_141 (by decide) (by unfold rg; omega) (fun c61 => ?_) (fun c61 => ?_)
        · have hng : ¬ ((false : Bool) = true ∧ r_4.1 = true) := by
            intro z
            have z1 := z.1
            cases z1
          have hQ2 : cPln E nest sm s = (false, (f (cnx E R)).2) := by
            rw [hP, hB]; unfold cFin
            rw [if_neg hng]
          have hyv : y60 = bI ((cPln E nest sm s).1 = true) := by
            rw [hQ2, bI_f (fun z => by cases z)]; omega
          refine rr_iload_n pf_89_157 rfl ?_
          refine rr_zret pf_89_158 pt_89 (by first | exact Or.inl rfl | exact Or.inr rfl | omega) ⟨by congr 3; try exact hyv, M57, rfl, q58, (by rw [hQ2]; exact pSM57)⟩
        · exfalso; omega
      · have hr1 := c59
        refine rr_aload_n pf_89_67 rfl ?_
        refine rr_bipush pf_89_68 (by decide) ?_
        obtain ⟨M62, ⟨kq63, pSM62⟩, hcM62⟩ := ct_CS_closed (xs := xs) (L := L) (d := d) (E := E) (cl := cl) (s := (f (cnx E R)).2) (c := 41) (by omega) hW q58.1 q58.2.1 pSM57 (by omega)
        have q63 := qk_trm q58 kq63 (by decide)
        refine rr_cV1 pf_89_70 po_89 pc_3_145 (ws_200 hW) po_79 (by decide) rfl hcM62 ?_
        refine rr_ifb_eq 80 pf_89_73 (by decide) (fun c64 => ?_) (fun c64 => ?_)
        · have pS65 := pSM62
          rw [if_neg c64] at pS65
          have hcl := c64
          have hB : cPb E nest sm R = (false, cfl E (f (cnx E R)).2) := by
            unfold cPb
            rw [if_pos hcp, hf]
            show (if (f (cnx E R)).1 = true then _ else _) = _
            rw [if_pos hr1, if_neg hcl]
          refine rr_iconst pf_89_80 ?_
          refine rr_istore_n pf_89_81 (fun y => [.ref 200, .int (iI (((dep : Nat) : Int))), .int (iI (tu_5)), .int (iI (y)), v9]) (Nat.le_of_ble_eq_true rfl) (fun _ => rfl) (fun y66 hy66 => ?_)
          refine rr_goto 140 pf_89_82 (by decide) ?_
          have hP : cPln E nest sm s = cFin r_4.1 (cPb E nest sm R) := by
            unfold cPln
            rw [hxE, ← hR]
          refine rr_iload_n pf_89_140 rfl ?_
          refine rr_if_eq 157 pf_89_141 (by decide) (by unfold rg; omega) (fun c67 => ?_) (fun c67 => ?_)
          · have hng : ¬ ((false : Bool) = true ∧ r_4.1 = true) := by
              intro z
              have z1 := z.1
              cases z1
            have hQ2 : cPln E nest sm s = (false, (cfl E (f (cnx E R)).2)) := by
              rw [hP, hB]; unfold cFin
              rw [if_neg hng]
            have hyv : y66 = bI ((cPln E nest sm s).1 = true) := by
              rw [hQ2, bI_f (fun z => by cases z)]; omega
            refine rr_iload_n pf_89_157 rfl ?_
            refine rr_zret pf_89_158 pt_89 (by first | exact Or.inl rfl | exact Or.inr rfl | omega) ⟨by congr 3; try exact hyv, M62, rfl, q63, (by rw [hQ2]; exact pS65)⟩
          · exfalso; omega
        · have pS68 := pSM62
          rw [if_pos c64] at pS68
          have hcl := c64
          refine rr_iconst pf_89_76 ?_
          refine rr_goto 81 pf_89_77 (by decide) ?_
          refine rr_istore_n pf_89_81 (fun y => [.ref 200, .int (iI (((dep : Nat) : Int))), .int (iI (tu_5)), .int (iI (y)), v9]) (Nat.le_of_ble_eq_true rfl) (fun _ => rfl) (fun y69 hy69 => ?_)
          refine rr_goto 140 pf_89_82 (by decide) ?_
          have hB : cPb E nest sm R = (true, cnx E (f (cnx E R)).2) := by
            unfold cPb
            rw [if_pos hcp, hf]
            show (if (f (cnx E R)).1 = true then _ else _) = _
            rw [if_pos hr1, if_pos hcl]
          have hP : cPln E nest sm s = cFin r_4.1 (cPb E nest sm R) := by
            unfold cPln
            rw [hxE, ← hR]
          refine rr_iload_n pf_89_140 rfl ?_
          refine rr_if_eq 157 pf_89_141 (by decide) (by unfold rg; omega) (fun c70 => ?_) (fun c70 => ?_)
          · exfalso; omega
          · refine rr_iload_n pf_89_144 rfl ?_
            refine rr_if_eq 157 pf_89_145 (by decide) (by unfold rg; omega) (fun c71 => ?_) (fun c71 => ?_)
            · have hng : ¬ ((true : Bool) = true ∧ r_4.1 = true) := by
                intro z
                have z1 := z.2
                rcases hxf with u | u
                · omega
                · rw [u.2] at z1; cases z1
              have hQ2 : cPln E nest sm s = (true, (cnx E (f (cnx E R)).2)) := by
                rw [hP, hB]; unfold cFin
                rw [if_neg hng]
              have hyv : y69 = bI ((cPln E nest sm s).1 = true) := by
                rw [hQ2, bI_t rfl]; omega
              refine rr_iload_n pf_89_157 rfl ?_
              refine rr_zret pf_89_158 pt_89 (by first | exact Or.inl rfl | exact Or.inr rfl | omega) ⟨by congr 3; try exact hyv, M62, rfl, q63, (by rw [hQ2]; exact pS68)⟩
            · refine rr_aload_n pf_89_148 rfl ?_
              refine rr_getR pf_89_149 po_89 pg_3_14 rfl (ws_200 hW) (by decide) (wr_200_0 q63.1) ?_
              refine rr_iconst pf_89_152 ?_
              refine rr_iconst pf_89_153 ?_
              obtain ⟨M72, ⟨kq73, pSM72⟩, hcM72⟩ := ct_CS_add (xs := xs) (L := L) (d := d) (E := E) (cl := cl) (s := (cnx E (f (cnx E R)).2)) (op := 2) (arg := 0) (by omega) hW q63.1 q63.2.1 pS68 (by unfold rg; omega) (by unfold rg; omega)
              have q73 := qk_trm q63 kq73 (by decide)
              refine rr_cV2 pf_89_154 po_89 pc_3_129 (ws_201 hW) po_80 (by decide) rfl hcM72 ?_
              have htr : r_4.1 = true := by
                rcases hxf with z | z
                · exact z.2
                · omega
              have hQ2 : cPln E nest sm s = (true, (cad 2 0 (cnx E (f (cnx E R)).2))) := by
                rw [hP, hB]; unfold cFin; rw [if_pos ⟨rfl, htr⟩]
              have hyv : y69 = bI ((cPln E nest sm s).1 = true) := by rw [hQ2, bI_t rfl]; omega
              refine rr_iload_n pf_89_157 rfl ?_
              refine rr_zret pf_89_158 pt_89 (by first | exact Or.inl rfl | exact Or.inr rfl | omega) ⟨by congr 3; try exact hyv, M72, rfl, q73, (by rw [hQ2]; exact pSM72)⟩

/-! the class: a row of panes -/
theorem cp3_up (M : Nat → Nat → Int) (k p : Nat) : px_copy M 199 (k + 1) 5 (3 * p) 3 = px_up (px_up (px_up M 5 (3 * p) (M 199 (k + 1))) 5 (3 * p + 1) (M 199 (k + 2))) 5 (3 * p + 2) (M 199 (k + 3)) := by
  funext a j
  unfold px_copy px_cl
  simp only [up_at]
  by_cases ha : a = 5
  · subst ha
    rw [if_pos rfl]
    by_cases h2 : j = 3 * p + 2
    · rw [if_pos (by omega), if_pos (by omega), show k + 1 + (j - 3 * p) = k + 3 by omega]
    · by_cases h1 : j = 3 * p + 1
      · rw [if_pos (by omega), if_neg (by omega), if_pos (by omega), show k + 1 + (j - 3 * p) = k + 2 by omega]
      · by_cases h0 : j = 3 * p
        · rw [if_pos (by omega), if_neg (by omega), if_neg (by omega), if_pos (by omega), show k + 1 + (j - 3 * p) = k + 1 by omega]
        · rw [if_neg (by omega), if_neg (by omega), if_neg (by omega), if_neg (by omega)]
  · rw [if_neg ha, if_neg (by omega), if_neg (by omega), if_neg (by omega)]
theorem rc_cp3 {M : Nat → Nat → Int} {k p : Nat} (hp : p < 16) : rc (px_copy M 199 (k + 1) 5 (3 * p) 3) 3 = rup (rup (rup (rc M 3) (9 + 3 * p) (M 199 (k + 1))) (9 + 3 * p + 1) (M 199 (k + 2))) (9 + 3 * p + 2) (M 199 (k + 3)) := by
  rw [cp3_up, r3_a5 (by omega), r3_a5 (by omega), r3_a5 (by omega)]
  rfl
theorem ct_S_tellPane {xs : Nat → Int} {L d : Nat} {sh : List (Nat × Nat)} {M0 : Nat → Nat → Int} (hd : 3 ≤ d) (hW : px_W0 <+: sh) (hF : px_Fx M0) (hG : px_RG sh M0)  {tn : Nat} (h11 : M0 0 11 = ((tn : Nat) : Int)) (htn : tn ≤ 400) {k : Nat} (hk : k < tn) : ∃ M, (px_qk sh [5] M0 M ∧ (rc M 3 = if rwOK tn (M0 199) k then rup3 (rc M0 3) (M0 199 k) (M0 199 (k + 1)) (M0 199 (k + 2)) (M0 199 (k + 3)) else rc M0 3)) ∧ px_Cl xs L d 52 [.ref 0, .int (iI (((k : Nat) : Int)))] (sh, M0) (some (.int (iI (bI (rwOK tn (M0 199) k))))) (sh, M) := by
  obtain ⟨d, rfl⟩ : ∃ e, d = e + 1 := ⟨d - 1, by omega⟩
  have q0 : px_qk sh [5] M0 M0 := ⟨hF, hG, eo_rf⟩
  refine vc_n (Nat.le_of_ble_eq_true rfl) ?_
  show px_R xs L d 52 (0, [.ref 0, .int (iI (((k : Nat) : Int))), px_jk], [], (sh, M0)) (fun r h' => r = some (.int (iI (bI (rwOK tn (M0 199) k)))) ∧ ∃ M', h' = (sh, M') ∧ px_qk sh [5] M0 M' ∧ (rc M' 3 = if rwOK tn (M0 199) k then rup3 (rc M0 3) (M0 199 k) (M0 199 (k + 1)) (M0 199 (k + 2)) (M0 199 (k + 3)) else rc M0 3))
  refine rr_iload_n pf_52_0 rfl ?_
  refine rr_iconst pf_52_1 ?_
  refine rr_iadd pf_52_2 ?_
  refine rr_aload_n pf_52_3 rfl ?_
  refine vr_getI q0 pf_52_4 po_52 pg_8_77 rfl (ws_0 hW) (by decide) (fun x1 hx1 rx1 => ?_)
  rw [h11] at hx1
  refine rr_icmp_gt 22 pf_52_7 (by decide) (by unfold rg; omega) rx1 (fun c2 => ?_) (fun c2 => ?_)
  · refine rr_iconst pf_52_22 ?_
    refine rr_zret pf_52_23 pt_52 (by first | exact Or.inl rfl | exact Or.inr rfl | omega) ⟨by rw [bI_f (by omega)], M0, rfl, q0, (by rw [if_neg (by omega)])⟩
  · refine rr_aload_n pf_52_10 rfl ?_
    refine rr_getR pf_52_11 po_52 pg_8_61 rfl (ws_0 hW) (by decide) (wr_0_8 q0.1) ?_
    refine rr_iload_n pf_52_14 rfl ?_
    refine vr_iald (j := k) q0 pf_52_15 (ws_199 hW) (by omega) (by omega) (by decide) (fun x3 hx3 rx3 => ?_)
    refine rr_cS1 pf_52_16 po_52 pc_8_128 (by decide) rfl (ct_S_isPane (by omega) rx3) ?_
    refine rr_ifb_ne 24 pf_52_19 (by decide) (fun c4 => ?_) (fun c4 => ?_)
    · refine rr_iconst pf_52_24 ?_
      refine rr_istore_n pf_52_25 (fun y => [.ref 0, .int (iI (((k : Nat) : Int))), .int (iI (y))]) (Nat.le_of_ble_eq_true rfl) (fun _ => rfl) (fun y5 hy5 => ?_)
      refine rr_iload_n pf_52_26 rfl ?_
      refine rr_iconst pf_52_27 ?_
      refine rr_icmp_ge 55 pf_52_28 (by decide) (by unfold rg; omega) (by unfold rg; omega) (fun c6 => ?_) (fun c6 => ?_)
      · exfalso; omega
      · refine rr_aload_n pf_52_31 rfl ?_
        refine rr_getR pf_52_32 po_52 pg_8_61 rfl (ws_0 hW) (by decide) (wr_0_8 q0.1) ?_
        refine rr_iload_n pf_52_35 rfl ?_
        refine rr_iconst pf_52_36 ?_
        refine rr_iadd pf_52_37 ?_
        refine rr_iload_n pf_52_38 rfl ?_
        refine rr_iadd pf_52_39 ?_
        refine vr_iald (j := k + 1) q0 pf_52_40 (ws_199 hW) (by omega) (by omega) (by decide) (fun x7 hx7 rx7 => ?_)
        refine rr_cS1 pf_52_41 po_52 pc_8_274 (by decide) rfl (ct_S_isAmount (by omega) rx7) ?_
        refine rr_ifb_ne 49 pf_52_44 (by decide) (fun c8 => ?_) (fun c8 => ?_)
        · refine rr_iinc pf_52_49 rfl (fun y => [.ref 0, .int (iI (((k : Nat) : Int))), .int (iI (y))]) (fun _ => rfl) (fun y9 hy9 => ?_)
          refine rr_goto 26 pf_52_52 (by decide) ?_
          refine rr_iload_n pf_52_26 rfl ?_
          refine rr_iconst pf_52_27 ?_
          refine rr_icmp_ge 55 pf_52_28 (by decide) (by unfold rg; omega) (by unfold rg; omega) (fun c10 => ?_) (fun c10 => ?_)
          · exfalso; omega
          · refine rr_aload_n pf_52_31 rfl ?_
            refine rr_getR pf_52_32 po_52 pg_8_61 rfl (ws_0 hW) (by decide) (wr_0_8 q0.1) ?_
            refine rr_iload_n pf_52_35 rfl ?_
            refine rr_iconst pf_52_36 ?_
            refine rr_iadd pf_52_37 ?_
            refine rr_iload_n pf_52_38 rfl ?_
            refine rr_iadd pf_52_39 ?_
            refine vr_iald (j := k + 2) q0 pf_52_40 (ws_199 hW) (by omega) (by omega) (by decide) (fun x11 hx11 rx11 => ?_)
            refine rr_cS1 pf_52_41 po_52 pc_8_274 (by decide) rfl (ct_S_isAmount (by omega) rx11) ?_
            refine rr_ifb_ne 49 pf_52_44 (by decide) (fun c12 => ?_) (fun c12 => ?_)
            · refine rr_iinc pf_52_49 rfl (fun y => [.ref 0, .int (iI (((k : Nat) : Int))), .int (iI (y))]) (fun _ => rfl) (fun y13 hy13 => ?_)
              refine rr_goto 26 pf_52_52 (by decide) ?_
              refine rr_iload_n pf_52_26 rfl ?_
              refine rr_iconst pf_52_27 ?_
              refine rr_icmp_ge 55 pf_52_28 (by decide) (by unfold rg; omega) (by unfold rg; omega) (fun c14 => ?_) (fun c14 => ?_)
              · exfalso; omega
              · refine rr_aload_n pf_52_31 rfl ?_
                refine rr_getR pf_52_32 po_52 pg_8_61 rfl (ws_0 hW) (by decide) (wr_0_8 q0.1) ?_
                refine rr_iload_n pf_52_35 rfl ?_
                refine rr_iconst pf_52_36 ?_
                refine rr_iadd pf_52_37 ?_
                refine rr_iload_n pf_52_38 rfl ?_
                refine rr_iadd pf_52_39 ?_
                refine vr_iald (j := k + 3) q0 pf_52_40 (ws_199 hW) (by omega) (by omega) (by decide) (fun x15 hx15 rx15 => ?_)
                refine rr_cS1 pf_52_41 po_52 pc_8_274 (by decide) rfl (ct_S_isAmount (by omega) rx15) ?_
                refine rr_ifb_ne 49 pf_52_44 (by decide) (fun c16 => ?_) (fun c16 => ?_)
                · refine rr_iinc pf_52_49 rfl (fun y => [.ref 0, .int (iI (((k : Nat) : Int))), .int (iI (y))]) (fun _ => rfl) (fun y17 hy17 => ?_)
                  refine rr_goto 26 pf_52_52 (by decide) ?_
                  refine rr_iload_n pf_52_26 rfl ?_
                  refine rr_iconst pf_52_27 ?_
                  refine rr_icmp_ge 55 pf_52_28 (by decide) (by unfold rg; omega) (by unfold rg; omega) (fun c18 => ?_) (fun c18 => ?_)
                  · refine rr_aload_n pf_52_55 rfl ?_
                    refine rr_getR pf_52_56 po_52 pg_8_61 rfl (ws_0 hW) (by decide) (wr_0_8 q0.1) ?_
                    refine rr_iload_n pf_52_59 rfl ?_
                    refine rr_iconst pf_52_60 ?_
                    refine rr_iadd pf_52_61 ?_
                    refine rr_aload_n pf_52_62 rfl ?_
                    refine rr_getR pf_52_63 po_52 pg_8_21 rfl (ws_0 hW) (by decide) (wr_0_1 q0.1) ?_
                    refine rr_getR pf_52_66 po_52 pg_8_131 rfl (ws_3 hW) (by decide) (wr_3_0 q0.1) ?_
                    refine rr_getR pf_52_69 po_52 pg_8_363 rfl (ws_4 hW) (by decide) (wr_4_0 q0.1) ?_
                    refine rr_aload_n pf_52_72 rfl ?_
                    refine rr_getR pf_52_73 po_52 pg_8_61 rfl (ws_0 hW) (by decide) (wr_0_8 q0.1) ?_
                    refine rr_iload_n pf_52_76 rfl ?_
                    refine vr_iald (j := k) q0 pf_52_77 (ws_199 hW) (by omega) (by omega) (by decide) (fun x19 hx19 rx19 => ?_)
                    refine rr_iconst pf_52_78 ?_
                    refine rr_imul pf_52_79 ?_
                    refine rr_iconst pf_52_80 ?_
                    refine vr_copy (js := k + 1) (jd := 3 * (M0 199 k).toNat) (jm := 3) hW q0 pf_52_81 po_52 pc_8_366 rfl (ws_199 hW) (ws_5 hW) (by omega) (by omega) (by omega) (by omega) (by omega) (by decide) (by decide) (by decide) (fun M20 eM20 q21 => ?_)
                    refine rr_iconst pf_52_84 ?_
                    refine rr_zret pf_52_85 pt_52 (by first | exact Or.inl rfl | exact Or.inr rfl | omega) ⟨by rw [bI_t (by omega)], M20, rfl, q21, (by rw [if_pos (by omega), eM20]; unfold rup3; exact rc_cp3 (by omega))⟩
                  · exfalso; omega
                · refine rr_iconst pf_52_47 ?_
                  refine rr_zret pf_52_48 pt_52 (by first | exact Or.inl rfl | exact Or.inr rfl | omega) ⟨by rw [bI_f (by omega)], M0, rfl, q0, (by rw [if_neg (by omega)])⟩
            · refine rr_iconst pf_52_47 ?_
              refine rr_zret pf_52_48 pt_52 (by first | exact Or.inl rfl | exact Or.inr rfl | omega) ⟨by rw [bI_f (by omega)], M0, rfl, q0, (by rw [if_neg (by omega)])⟩
        · refine rr_iconst pf_52_47 ?_
          refine rr_zret pf_52_48 pt_52 (by first | exact Or.inl rfl | exact Or.inr rfl | omega) ⟨by rw [bI_f (by omega)], M0, rfl, q0, (by rw [if_neg (by omega)])⟩
    · refine rr_iconst pf_52_22 ?_
      refine rr_zret pf_52_23 pt_52 (by first | exact Or.inl rfl | exact Or.inr rfl | omega) ⟨by rw [bI_f (by omega)], M0, rfl, q0, (by rw [if_neg (by omega)])⟩
theorem ct_S_row0 {xs : Nat → Int} {L d : Nat} {sh : List (Nat × Nat)} {M0 : Nat → Nat → Int} (hd : 4 ≤ d) (hW : px_W0 <+: sh) (hF : px_Fx M0) (hG : px_RG sh M0)  (hrc : ∀ j, j < 5 → 0 ≤ M0 205 j ∧ M0 205 j ≤ 1000000000) (h0 : M0 0 11 = 0) : ∃ v M, (px_qk sh [0, 205] M0 M ∧ (v = -6) ∧ (M 0 13 = -6) ∧ (M 205 = bmC (M0 205) (-6)) ∧ (fk 0 [13] M0 M)) ∧ px_Cl xs L d 51 [.ref 0] (sh, M0) (some (.int (iI v))) (sh, M) := by
  obtain ⟨d, rfl⟩ : ∃ e, d = e + 1 := ⟨d - 1, by omega⟩
  have q0 : px_qk sh [0, 205] M0 M0 := ⟨hF, hG, eo_rf⟩
  refine vc_i (Nat.le_of_ble_eq_true rfl) ?_
  show px_R xs L d 51 (0, [.ref 0, px_jk, px_jk], [], (sh, M0)) (fun r h' => ∃ v M', r = some (.int (iI v)) ∧ h' = (sh, M') ∧ px_qk sh [0, 205] M0 M' ∧ v = -6 ∧ M' 0 13 = -6 ∧ M' 205 = bmC (M0 205) (-6) ∧ fk 0 [13] M0 M')
  refine rr_aload_n pf_51_0 rfl ?_
  refine vr_getI q0 pf_51_1 po_51 pg_8_77 rfl (ws_0 hW) (by decide) (fun x1 hx1 rx1 => ?_)
  rw [h0] at hx1
  refine rr_if_ne 14 pf_51_4 (by decide) rx1 (fun c2 => ?_) (fun c2 => ?_)
  · exfalso; omega
  · refine rr_aload_n pf_51_7 rfl ?_
    refine rr_bipush pf_51_8 (by decide) ?_
    obtain ⟨r5, M3, ⟨kq4, pv_M3, p13_M3, p5_M3, pf_M3⟩, hcM3⟩ := ct_S_refuse (xs := xs) (L := L) (d := d) (u := (-6)) (by omega) hW q0.1 q0.2.1 (by omega) hrc
    have q4 := qk_trm q0 kq4 (by decide)
    have rq6 := fk_tr (fk_rf 0 [13] M0) pf_M3 (by decide)
    refine rr_cV1 pf_51_10 po_51 pc_8_99 (ws_0 hW) po_13 (by decide) rfl hcM3 ?_
    refine rr_iret pf_51_13 pt_51 ⟨_, M3, rfl, rfl, q4, (pv_M3), (p13_M3), (p5_M3), (rq6)⟩
theorem lp_S_row1_23 {xs : Nat → Int} {L d : Nat} {sh : List (Nat × Nat)} (hd : 4 ≤ d) (hW : px_W0 <+: sh) {M0 : Nat → Nat → Int}  {tn : Nat} (h11 : M0 0 11 = ((tn : Nat) : Int)) (htn : tn ≤ 400)  {Q : Option Value → px_H → Prop} (kx : ∀ (ca : Int) (f : Nat) (i : Nat) (M : Nat → Nat → Int), px_qk sh [0, 5] M0 M → (fk 0 [11, 12, 13] M0 M) → (ca = rwC tn (M0 199) (rwN tn)) → (M 0 12 = (rwN tn : Int) - rwC tn (M0 199) (rwN tn)) → (rc M 3 = rwR tn (M0 199) (rc M0 3) (rwN tn)) → (0 ≤ ca ∧ ca ≤ 200) → px_R xs L d 51 (61, [.ref 0, .int (iI (ca)), .int (iI (((f : Nat) : Int)))], [], (sh, M)) Q)  : ∀ (mz : Nat) (ca : Int) (f : Nat) (i : Nat) (M : Nat → Nat → Int), tn + 4 - f = mz → px_qk sh [0, 5] M0 M → (fk 0 [11, 12, 13] M0 M) → (f = 4 * i ∧ f < tn + 4) → (ca = rwC tn (M0 199) i) → (M 0 12 = ((i : Nat) : Int) - ca) → (rc M 3 = rwR tn (M0 199) (rc M0 3) i) → (M 0 11 = ((tn : Nat) : Int)) → (0 ≤ ca ∧ ca ≤ i) → px_R xs L d 51 (23, [.ref 0, .int (iI (ca)), .int (iI (((f : Nat) : Int)))], [], (sh, M)) Q := by
  intro mz
  induction mz using Nat.strongRecOn with
  | _ mz ih =>
    intro ca f i M hm hq hrq hfi hca hld hrw hn1 hcb
    refine rr_iload_n pf_51_23 rfl ?_
    refine rr_aload_n pf_51_24 rfl ?_
    refine vr_getI hq pf_51_25 po_51 pg_8_77 rfl (ws_0 hW) (by decide) (fun x1 hx1 rx1 => ?_)
    rw [hn1] at hx1
    refine rr_icmp_ge 61 pf_51_28 (by decide) (by unfold rg; omega) rx1 (fun c2 => ?_) (fun c2 => ?_)
    · exact kx ca f i M hq (hrq) (by rw [hca]; congr 1; unfold rwN; omega) (by
                  have e : rwN tn = i := by unfold rwN; omega
                  rw [e, ← hca]; exact hld) (by
                  have e : rwN tn = i := by unfold rwN; omega
                  rw [e]; exact hrw) (by omega)
    · refine rr_aload_n pf_51_31 rfl ?_
      refine rr_iload_n pf_51_32 rfl ?_
      obtain ⟨M3, ⟨kq4, pr_M3⟩, hcM3⟩ := ct_S_tellPane (xs := xs) (L := L) (d := d) (k := f) (tn := tn) (by omega) hW hq.1 hq.2.1 hn1 htn (by omega)
      have q4 := qk_trm hq kq4 (by decide)
      have rq6 := fk_q hrq kq4 (by decide)
      refine rr_cV1 pf_51_33 po_51 pc_8_195 (ws_0 hW) po_52 (by decide) rfl hcM3 ?_
      
      refine rr_ifb_eq 45 pf_51_36 (by decide) (fun c7 => ?_) (fun c7 => ?_)
      · have hOK0 := c7
        have hOK : ¬ rwOK tn (M0 199) (4 * i) := by rw [← hfi.1, ← hq.2.2 199 (by decide)]; exact c7
        refine rr_aload_n pf_51_45 rfl ?_
        refine rr_dup pf_51_46 rfl ?_
        refine vr_getI q4 pf_51_47 po_51 pg_8_81 rfl (ws_0 hW) (by decide) (fun x8 hx8 rx8 => ?_)
        rw [kq4.2.2 0 (by decide), hld] at hx8
        refine rr_iconst pf_51_50 ?_
        refine rr_iadd pf_51_51 ?_
        refine vr_putI hW q4 pf_51_52 po_51 pg_8_81 (Or.inl rfl) rfl (ws_0 hW) (by decide) (by unfold rg; omega) (by decide) (fun M9 eM9 q10 => ?_)
        have rq11 := fk_up rq6 eM9 (by decide)
        refine rr_iinc pf_51_55 rfl (fun y => [.ref 0, .int (iI (ca)), .int (iI (y))]) (fun _ => rfl) (fun y12 hy12 => ?_)
        refine rr_goto 23 pf_51_58 (by decide) ?_
        obtain ⟨nz13, hnz13, rfl⟩ : ∃ zz : Nat, zz = 4 + f ∧ y12 = ((zz : Nat) : Int) := ⟨4 + f, rfl, by omega⟩
        exact ih _ (by omega) ca nz13 (i + 1) M9 rfl q10 (rq11) (by omega) (by rw [rwC, if_neg (by rw [rwd_f hOK]; decide), ← hca]; omega) (by rw [eM9, up_s]; omega) (by rw [rwR, if_neg (by rw [rwd_f hOK]; decide), ← hrw, rc_eo (M := M3) (A := [0]) (fun a ha => by rw [eM9, ask_ne (fun z => ha (by rw [z]; exact List.mem_cons_self))]) (by decide)]; rw [if_neg hOK0] at pr_M3; exact pr_M3) (by rw [eM9, up_ne (by decide), kq4.2.2 0 (by decide)]; exact hn1) (by omega)
      · have hOK0 := c7
        have hOK : rwOK tn (M0 199) (4 * i) := by rw [← hfi.1, ← hq.2.2 199 (by decide)]; exact c7
        refine rr_iinc pf_51_39 rfl (fun y => [.ref 0, .int (iI (y)), .int (iI (((f : Nat) : Int)))]) (fun _ => rfl) (fun y14 hy14 => ?_)
        refine rr_goto 55 pf_51_42 (by decide) ?_
        refine rr_iinc pf_51_55 rfl (fun y => [.ref 0, .int (iI (y14)), .int (iI (y))]) (fun _ => rfl) (fun y15 hy15 => ?_)
        refine rr_goto 23 pf_51_58 (by decide) ?_
        obtain ⟨nz16, hnz16, rfl⟩ : ∃ zz : Nat, zz = 4 + f ∧ y15 = ((zz : Nat) : Int) := ⟨4 + f, rfl, by omega⟩
        exact ih _ (by omega) y14 nz16 (i + 1) M3 rfl q4 (rq6) (by omega) (by rw [rwC, if_pos (rwd_t hOK), ← hca]; omega) (by rw [kq4.2.2 0 (by decide)]; omega) (by rw [rwR, if_pos (rwd_t hOK), ← hrw]; rw [if_pos hOK0, hq.2.2 199 (by decide), hfi.1] at pr_M3; exact pr_M3) (by rw [kq4.2.2 0 (by decide)]; exact hn1) (by omega)
theorem ct_S_row1 {xs : Nat → Int} {L d : Nat} {sh : List (Nat × Nat)} {M0 : Nat → Nat → Int} (hd : 5 ≤ d) (hW : px_W0 <+: sh) (hF : px_Fx M0) (hG : px_RG sh M0)  (hρ : sp_ok (rc M0 3)) (hrc : ∀ j, j < 5 → 0 ≤ M0 205 j ∧ M0 205 j ≤ 1000000000) (hto : tr_ok M0 27) {tn : Nat} (h11 : M0 0 11 = ((tn : Nat) : Int)) (htn : tn ≤ 400) (h0 : 0 < tn) : ∃ v M, (px_qk sh [0, 5, 27, 205] M0 M ∧ (v = rwC tn (M0 199) (rwN tn)) ∧ (rc M 3 = rwR tn (M0 199) (rc M0 3) (rwN tn)) ∧ (M 0 12 = (rwN tn : Int) - rwC tn (M0 199) (rwN tn)) ∧ (M 0 11 = 0) ∧ (M 27 = px_up M0 27 3 0 27) ∧ (M 0 13 = 0) ∧ (M 205 = M0 205) ∧ (fk 0 [11, 12, 13] M0 M)) ∧ px_Cl xs L d 51 [.ref 0] (sh, M0) (some (.int (iI v))) (sh, M) := by
  obtain ⟨d, rfl⟩ : ∃ e, d = e + 1 := ⟨d - 1, by omega⟩
  have q0 : px_qk sh [0, 5, 27, 205] M0 M0 := ⟨hF, hG, eo_rf⟩
  refine vc_i (Nat.le_of_ble_eq_true rfl) ?_
  show px_R xs L d 51 (0, [.ref 0, px_jk, px_jk], [], (sh, M0)) (fun r h' => ∃ v M', r = some (.int (iI v)) ∧ h' = (sh, M') ∧ px_qk sh [0, 5, 27, 205] M0 M' ∧ v = rwC tn (M0 199) (rwN tn) ∧ rc M' 3 = rwR tn (M0 199) (rc M0 3) (rwN tn) ∧ M' 0 12 = (rwN tn : Int) - rwC tn (M0 199) (rwN tn) ∧ M' 0 11 = 0 ∧ M' 27 = px_up M0 27 3 0 27 ∧ M' 0 13 = 0 ∧ M' 205 = M0 205 ∧ fk 0 [11, 12, 13] M0 M')
  refine rr_aload_n pf_51_0 rfl ?_
  refine vr_getI q0 pf_51_1 po_51 pg_8_77 rfl (ws_0 hW) (by decide) (fun x1 hx1 rx1 => ?_)
  rw [h11] at hx1
  refine rr_if_ne 14 pf_51_4 (by decide) rx1 (fun c2 => ?_) (fun c2 => ?_)
  · refine rr_iconst pf_51_14 ?_
    refine rr_istore_n pf_51_15 (fun y => [.ref 0, .int (iI (y)), px_jk]) (Nat.le_of_ble_eq_true rfl) (fun _ => rfl) (fun y3 hy3 => ?_)
    refine rr_aload_n pf_51_16 rfl ?_
    refine rr_iconst pf_51_17 ?_
    refine vr_putI hW q0 pf_51_18 po_51 pg_8_81 (Or.inl rfl) rfl (ws_0 hW) (by decide) (by unfold rg; omega) (by decide) (fun M4 eM4 q5 => ?_)
    have rq6 := fk_up (fk_rf 0 [11, 12, 13] M0) eM4 (by decide)
    have e7 : M4 205 = M0 205 := (show M4 205 = M0 205 by rw [eM4, ask_ne (by decide)]).trans (rfl : M0 205 = M0 205)
    have e8 : M4 27 = M0 27 := (show M4 27 = M0 27 by rw [eM4, ask_ne (by decide)]).trans (rfl : M0 27 = M0 27)
    have e9 : M4 199 = M0 199 := (show M4 199 = M0 199 by rw [eM4, ask_ne (by decide)]).trans (rfl : M0 199 = M0 199)
    refine rr_iconst pf_51_21 ?_
    refine rr_istore_n pf_51_22 (fun y => [.ref 0, .int (iI (y3)), .int (iI (y))]) (Nat.le_of_ble_eq_true rfl) (fun _ => rfl) (fun y10 hy10 => ?_)
    obtain ⟨nz11, hnz11, rfl⟩ : ∃ zz : Nat, zz = 0 ∧ y10 = ((zz : Nat) : Int) := ⟨0, rfl, by omega⟩
    have h11 : M4 0 11 = ((tn : Nat) : Int) := by rw [eM4, up_ne (by decide)]; exact h11
    refine lp_S_row1_23 (xs := xs) (L := L) (d := d) (by omega) hW h11 htn (fun ca_12 f_13 i_14  M15 q16 xrq_M15 xca_M15 xld_M15 xrw_M15 xcb_M15 => ?_) _ y3 nz11 0 M4 rfl ⟨q5.1, q5.2.1, eo_rf⟩ ((fk_rf 0 [11, 12, 13] _)) (by omega) (by rw [hy3]; rfl) (by have := (show M4 0 12 = 0 by rw [eM4, up_s]); omega) (by rfl) (h11) (by omega)
    have q17 := qk_trm q5 q16 (by decide)
    have rq18 := fk_tr rq6 xrq_M15 (by decide)
    have e19 : M15 205 = M0 205 := (q16.2.2 205 (by decide)).trans e7
    have e20 : M15 27 = M0 27 := (q16.2.2 27 (by decide)).trans e8
    have e21 : M15 199 = M0 199 := (q16.2.2 199 (by decide)).trans e9
    
    have hCA := xca_M15
    have hLD := xld_M15
    have hRW := xrw_M15
    have hCB := xcb_M15
    have e4 : rc M4 3 = rc M0 3 := rc_eo (A := [0]) (fun a ha => by rw [eM4, ask_ne (fun z => ha (by rw [z]; exact List.mem_cons_self))]) (by decide)
    have e5 : M4 199 = M0 199 := by rw [eM4, ask_ne (by decide)]
    rw [e5] at hCA hLD hRW
    rw [e4] at hRW
    refine rr_aload_n pf_51_61 rfl ?_
    refine rr_iconst pf_51_62 ?_
    refine vr_putI hW q17 pf_51_63 po_51 pg_8_77 (Or.inl rfl) rfl (ws_0 hW) (by decide) (by unfold rg; omega) (by decide) (fun M22 eM22 q23 => ?_)
    have rq24 := fk_up rq18 eM22 (by decide)
    have e25 : M22 205 = M0 205 := (show M22 205 = M15 205 by rw [eM22, ask_ne (by decide)]).trans e19
    have e26 : M22 27 = M0 27 := (show M22 27 = M15 27 by rw [eM22, ask_ne (by decide)]).trans e20
    have e27 : M22 199 = M0 199 := (show M22 199 = M15 199 by rw [eM22, ask_ne (by decide)]).trans e21
    refine rr_aload_n pf_51_66 rfl ?_
    refine rr_getR pf_51_67 po_51 pg_8_39 rfl (ws_0 hW) (by decide) (wr_0_5 q23.1) ?_
    obtain ⟨M28, ⟨kq29, eM28⟩, hcM28⟩ := ct_Trail_clear (xs := xs) (L := L) (d := d) (tb := 27) (by omega) hW q23.1 q23.2.1 px_tr27 (by unfold tr_ok; rw [e26]; exact hto)
    have q29 := qk_trm q23 kq29 (by decide)
    have rq30 := fk_ne rq24 eM28 (by decide)
    have e31 : M28 205 = M0 205 := (show M28 205 = M22 205 by rw [eM28, ask_ne (by decide)]).trans e25
    have e32 : M28 199 = M0 199 := (show M28 199 = M22 199 by rw [eM28, ask_ne (by decide)]).trans e27
    have t27M28 : M28 27 = px_up M0 27 3 0 27 := by rw [eM28, up_self, up_self, e26]
    refine rr_cV0 pf_51_70 po_51 pc_8_112 (ws_27 hW) po_14 (by decide) rfl hcM28 ?_
    refine rr_aload_n pf_51_73 rfl ?_
    refine rr_iload_n pf_51_74 rfl ?_
    obtain ⟨r35, M33, ⟨kq34, pv_M33, p13_M33, pf_M33⟩, hcM33⟩ := ct_S_accept (xs := xs) (L := L) (d := d) (u := ca_12) (by omega) hW q29.1 q29.2.1 (by unfold rg; omega)
    have q34 := qk_trm q29 kq34 (by decide)
    have rq36 := fk_tr rq30 pf_M33 (by decide)
    have e37 : M33 205 = M0 205 := (kq34.2.2 205 (by decide)).trans e31
    have e38 : M33 199 = M0 199 := (kq34.2.2 199 (by decide)).trans e32
    have t27M33 : M33 27 = px_up M0 27 3 0 27 := (kq34.2.2 27 (by decide)).trans t27M28
    refine rr_cV1 pf_51_75 po_51 pc_8_115 (ws_0 hW) po_15 (by decide) rfl hcM33 ?_
    refine rr_iret pf_51_78 pt_51 ⟨_, M33, rfl, rfl, q34, (by rw [pv_M33]; exact hCA), (by rw [rc_eo kq34.2.2 (by decide), rc_eo (M := M15) (A := [0, 27]) (fun a ha => by rw [eM28, ask_ne (fun z => ha (by rw [z]; decide)), eM22, ask_ne (fun z => ha (by rw [z]; decide))]) (by decide)]; exact hRW), (by rw [pf_M33 12 (by decide), eM28, ask_ne (by decide), eM22, up_ne (by decide)]; exact hLD), (by rw [pf_M33 11 (by decide), eM28, ask_ne (by decide), eM22, up_s]), (t27M33), (p13_M33), (e37), (rq36)⟩
  · exfalso; omega

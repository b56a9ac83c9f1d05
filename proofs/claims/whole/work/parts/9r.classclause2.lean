/-! the class's reader: a clause as a whole -/
theorem lp_CS_clause_184 {xs : Nat → Int} {L d : Nat} {sh : List (Nat × Nat)} (hd : 40 ≤ d) (hW : px_W0 <+: sh) {M0 : Nat → Nat → Int}  {E : rdE} {cl : Nat} (hcl : cl < 12) {kd al : Int} (hkd : -1 ≤ kd ∧ kd ≤ 12) {q0 : cQ} {Q : Option Value → px_H → Prop} (kx : ∀ (q : cQ) (fi : Int) (M : Nat → Nat → Int), px_qk sh [200, 201, 202, 203, 204] M0 M → (CS M E cl q.2.1) → (M 204 = q.2.2) → (fIs fi q.1) → (q = cIf E (8 * cl + 6) q0) → px_R xs L d 61 (239, [.ref 200, .int (iI (kd)), .int (iI (al)), .int (iI (fi))], [], (sh, M)) Q)  : ∀ (mz : Nat) (q : cQ) (fi : Int) (M : Nat → Nat → Int), 0 = mz → px_qk sh [200, 201, 202, 203, 204] M0 M → (CS M E cl q.2.1) → (M 204 = q.2.2) → (fIs fi q.1) → (q = q0) → px_R xs L d 61 (184, [.ref 200, .int (iI (kd)), .int (iI (al)), .int (iI (fi))], [], (sh, M)) Q := by
  intro mz
  induction mz using Nat.strongRecOn with
  | _ mz ih =>
    intro q fi M hm hq hS hG2 hfi hq0
    have hf01 := fIs_01 hfi
    refine rr_iload_n pf_61_184 rfl ?_
    refine rr_if_eq 239 pf_61_185 (by decide) (by unfold rg; omega) (fun c1 => ?_) (fun c1 => ?_)
    · exact kx q fi M hq (hS) (hG2) (hfi) (by rw [← hq0]; unfold cIf; rw [if_neg (fun z => by have z1 := z.1; rw [fIs_f hfi (by omega)] at z1; cases z1)])
    · refine rr_aload_n pf_61_188 rfl ?_
      refine rr_ldcS pf_61_189 po_61 ps_3_106.1 ps_3_106.2 ?_
      obtain ⟨M2, ⟨kq3, pSM2⟩, hcM2⟩ := ct_CS_isWord (xs := xs) (L := L) (d := d) (E := E) (cl := cl) (s := q.2.1) (t := 9) (by omega) hW hq.1 hq.2.1 hS (by decide) let_9 hwD_9 (by decide +kernel)
      obtain rfl := qk_nil kq3
      refine rr_cV1 pf_61_191 po_61 pc_3_100 (ws_200 hW) po_85 (by decide) rfl hcM2 ?_
      refine rr_ifb_eq 239 pf_61_194 (by decide) (fun c4 => ?_) (fun c4 => ?_)
      · have hcw := c4
        exact kx q fi M hq (pSM2) (hG2) (hfi) (by rw [← hq0]; unfold cIf; rw [if_neg (fun z => hcw z.2)])
      · have hcw := c4
        have htt := rd_test (xs := xs) (L := L) (E := E) (cl := cl) hW 8 (by omega)
        refine rr_aload_n pf_61_197 rfl ?_
        obtain ⟨M5, ⟨kq6, pSM5⟩, hcM5⟩ := ct_CS_next (xs := xs) (L := L) (d := d) (E := E) (cl := cl) (s := ((q.2.1))) (by omega) hW hq.1 hq.2.1 pSM2 
        have q6 := qk_trm hq kq6 (by decide)
        have hg7 : M5 204 = q.2.2 := (kq6.2.2 204 (by decide)).trans hG2
        refine rr_cV0 pf_61_198 po_61 pc_3_57 (ws_200 hW) po_59 (by decide) rfl hcM5 ?_
        refine rr_aload_n pf_61_201 rfl ?_
        refine rr_getR pf_61_202 po_61 pg_3_14 rfl (ws_200 hW) (by decide) (wr_200_0 q6.1) ?_
        refine rr_bipush pf_61_205 (by decide) ?_
        refine rr_aload_n pf_61_207 rfl ?_
        refine rr_getR pf_61_208 po_61 pg_3_14 rfl (ws_200 hW) (by decide) (wr_200_0 q6.1) ?_
        refine vr_getI q6 pf_61_211 po_61 pg_3_108 rfl (ws_201 hW) (by decide) (fun x8 hx8 rx8 => ?_)
        rw [pSM5.z] at hx8
        have hzbx8 := pSM5.zb
        obtain ⟨M9, ⟨kq10, pgM9⟩, hcM9⟩ := ct_Text_mark (xs := xs) (L := L) (d := d) (cl := cl) (p := 6) (x := x8) (by omega) hW q6.1 q6.2.1 pSM5.n hcl (by omega) (by unfold rg; omega)
        rw [show ((6 : Nat) : Int) = 6 by omega] at hcM9
        rw [hg7] at pgM9
        have q10 := qk_trm q6 kq10 (by decide)
        have pS11 := CS_q pSM5 kq10 (by decide) (by decide) (by decide) (by decide) (by decide)
        refine rr_cV2 pf_61_214 po_61 pc_3_111 (ws_201 hW) po_73 (by decide) rfl hcM9 ?_
        refine rr_aload_n pf_61_217 rfl ?_
        refine rr_iconst pf_61_218 ?_
        obtain ⟨M12, ⟨kq13, pSM12⟩, hcM12⟩ := htt d M9 (cnx E ((q.2.1))) (by omega) q10.1 q10.2.1 pS11
        rw [show ((0 : Nat) : Int) = 0 by omega] at hcM12
        have q13 := qk_trm q10 kq13 (by decide)
        have hg14 : M12 204 = (fup q.2.2 (8 * cl + 6) x8) := (kq13.2.2 204 (by decide)).trans pgM9
        refine rr_cV1 pf_61_219 po_61 pc_3_114 (ws_200 hW) po_87 (by decide) rfl hcM12 ?_
        refine rr_istore_n pf_61_222 (fun y => [.ref 200, .int (iI (kd)), .int (iI (al)), .int (iI (y))]) (Nat.le_of_ble_eq_true rfl) (fun _ => rfl) (fun y15 hy15 => ?_)
        have ry15 := bI_rg ((cTs E 8 (cnx E ((q.2.1)))).1 = true)
        refine rr_aload_n pf_61_223 rfl ?_
        refine rr_getR pf_61_224 po_61 pg_3_14 rfl (ws_200 hW) (by decide) (wr_200_0 q13.1) ?_
        refine rr_bipush pf_61_227 (by decide) ?_
        refine rr_aload_n pf_61_229 rfl ?_
        refine rr_getR pf_61_230 po_61 pg_3_14 rfl (ws_200 hW) (by decide) (wr_200_0 q13.1) ?_
        refine vr_getI q13 pf_61_233 po_61 pg_3_108 rfl (ws_201 hW) (by decide) (fun x16 hx16 rx16 => ?_)
        rw [pSM12.z] at hx16
        have hzbx16 := pSM12.zb
        obtain ⟨M17, ⟨kq18, pgM17⟩, hcM17⟩ := ct_Text_mark (xs := xs) (L := L) (d := d) (cl := cl) (p := 7) (x := x16) (by omega) hW q13.1 q13.2.1 pSM12.n hcl (by omega) (by unfold rg; omega)
        rw [show ((7 : Nat) : Int) = 7 by omega] at hcM17
        rw [hg14] at pgM17
        have q18 := qk_trm q13 kq18 (by decide)
        have pS19 := CS_q pSM12 kq18 (by decide) (by decide) (by decide) (by decide) (by decide)
        refine rr_cV2 pf_61_236 po_61 pc_3_111 (ws_201 hW) po_73 (by decide) rfl hcM17 ?_
        exact kx ((cTs E 8 (cnx E q.2.1)).1, (cTs E 8 (cnx E q.2.1)).2, fup (fup q.2.2 (8 * cl + 6) (((cnx E q.2.1).sz : Nat) : Int)) (8 * cl + 6 + 1) (((cTs E 8 (cnx E q.2.1)).2.sz : Nat) : Int)) y15 M17 q18 (pS19) (by rw [pgM17, hx8, hx16]) (by rw [hy15]; exact fIs_b _) (by rw [← hq0]; unfold cIf; rw [if_pos ⟨fIs_t hfi (by omega), hcw⟩])
theorem lp_CS_clause_159 {xs : Nat → Int} {L d : Nat} {sh : List (Nat × Nat)} (hd : 40 ≤ d) (hW : px_W0 <+: sh) {M0 : Nat → Nat → Int}  {E : rdE} {cl : Nat} (hcl : cl < 12) {kd al : Int} (hkd : -1 ≤ kd ∧ kd ≤ 12) {q0 : cQ} {Q : Option Value → px_H → Prop} (kx : ∀ (q : cQ) (fi : Int) (M : Nat → Nat → Int), px_qk sh [200, 201, 202, 203, 204] M0 M → (CS M E cl q.2.1) → (M 204 = q.2.2) → (fIs fi q.1) → (q = cC3 E cl q0) → px_R xs L d 61 (184, [.ref 200, .int (iI (kd)), .int (iI (al)), .int (iI (fi))], [], (sh, M)) Q)  : ∀ (mz : Nat) (q : cQ) (fi : Int) (M : Nat → Nat → Int), 0 = mz → px_qk sh [200, 201, 202, 203, 204] M0 M → (CS M E cl q.2.1) → (M 204 = q.2.2) → (fIs fi q.1) → (q = q0) → px_R xs L d 61 (159, [.ref 200, .int (iI (kd)), .int (iI (al)), .int (iI (fi))], [], (sh, M)) Q := by
  intro mz
  induction mz using Nat.strongRecOn with
  | _ mz ih =>
    intro q fi M hm hq hS hG2 hfi hq0
    have hf01 := fIs_01 hfi
    refine rr_iload_n pf_61_159 rfl ?_
    refine rr_if_eq 184 pf_61_160 (by decide) (by unfold rg; omega) (fun c1 => ?_) (fun c1 => ?_)
    · exact kx q fi M hq (hS) (hG2) (hfi) (by rw [← hq0]; unfold cC3; rw [if_neg (fun z => by have z1 := z.1; rw [fIs_f hfi (by omega)] at z1; cases z1)])
    · refine rr_aload_n pf_61_163 rfl ?_
      refine vr_getZ hq pf_61_164 po_61 pg_3_27 rfl (ws_200 hW) (by decide) (fun x2 hx2 rx2 => ?_)
      rw [hS.2.1] at hx2
      have hodx2 := hS.2.2.1
      refine rr_if_eq 184 pf_61_167 (by decide) rx2 (fun c3 => ?_) (fun c3 => ?_)
      · exact kx q fi M hq (hS) (hG2) (hfi) (by rw [← hq0]; unfold cC3; rw [if_neg (fun z => by have z1 := z.2.1; omega)])
      · refine rr_aload_n pf_61_170 rfl ?_
        refine rr_ldcS pf_61_171 po_61 ps_3_98.1 ps_3_98.2 ?_
        obtain ⟨M4, ⟨kq5, pSM4⟩, hcM4⟩ := ct_CS_isWord (xs := xs) (L := L) (d := d) (E := E) (cl := cl) (s := q.2.1) (t := 8) (by omega) hW hq.1 hq.2.1 hS (by decide) let_8 hwD_8 (by decide +kernel)
        obtain rfl := qk_nil kq5
        refine rr_cV1 pf_61_173 po_61 pc_3_100 (ws_200 hW) po_85 (by decide) rfl hcM4 ?_
        refine rr_ifb_eq 184 pf_61_176 (by decide) (fun c6 => ?_) (fun c6 => ?_)
        · have hcw := c6
          exact kx q fi M hq (pSM4) (hG2) (hfi) (by rw [← hq0]; unfold cC3; rw [if_neg (fun z => hcw z.2.2)])
        · have hcw := c6
          refine rr_aload_n pf_61_179 rfl ?_
          obtain ⟨M7, ⟨kq8, pSM7, pgM7⟩, hcM7⟩ := ct_CS_often (xs := xs) (L := L) (d := d) (E := E) (cl := cl) (s := ((q.2.1))) (g := q.2.2) (by omega) hW hq.1 hq.2.1 pSM4 hcl hG2
          have q8 := qk_trm hq kq8 (by decide)
          refine rr_cV0 pf_61_180 po_61 pc_3_103 (ws_200 hW) po_86 (by decide) rfl hcM7 ?_
          refine rr_istore_n pf_61_183 (fun y => [.ref 200, .int (iI (kd)), .int (iI (al)), .int (iI (y))]) (Nat.le_of_ble_eq_true rfl) (fun _ => rfl) (fun y9 hy9 => ?_)
          have ry9 := bI_rg ((ofn E (8 * cl + 1) ((q.2.1)) (q.2.2)).1 = true)
          exact kx (ofn E (8 * cl + 1) q.2.1 q.2.2) y9 M7 q8 (pSM7) (pgM7) (by rw [hy9]; exact fIs_b _) (by rw [← hq0]; unfold cC3; rw [if_pos ⟨fIs_t hfi (by omega), by omega, hcw⟩])
theorem lp_CS_clause_81 {xs : Nat → Int} {L d : Nat} {sh : List (Nat × Nat)} (hd : 40 ≤ d) (hW : px_W0 <+: sh) {M0 : Nat → Nat → Int}  {E : rdE} {cl : Nat} (hcl : cl < 12) {kd al : Int} (hkd : -1 ≤ kd ∧ kd ≤ 12) {q0 : cQ} {Q : Option Value → px_H → Prop} (kx : ∀ (q : cQ) (fi : Int) (M : Nat → Nat → Int), px_qk sh [200, 201, 202, 203, 204] M0 M → (CS M E cl q.2.1) → (M 204 = q.2.2) → (fIs fi q.1) → (q = cC2 E cl kd q0) → px_R xs L d 61 (159, [.ref 200, .int (iI (kd)), .int (iI (al)), .int (iI (fi))], [], (sh, M)) Q)  : ∀ (mz : Nat) (q : cQ) (fi : Int) (M : Nat → Nat → Int), 0 = mz → px_qk sh [200, 201, 202, 203, 204] M0 M → (CS M E cl q.2.1) → (M 204 = q.2.2) → (fIs fi q.1) → (q = q0) → px_R xs L d 61 (81, [.ref 200, .int (iI (kd)), .int (iI (al)), .int (iI (fi))], [], (sh, M)) Q := by
  intro mz
  induction mz using Nat.strongRecOn with
  | _ mz ih =>
    intro q fi M hm hq hS hG2 hfi hq0
    have hf01 := fIs_01 hfi
    refine rr_iload_n pf_61_81 rfl ?_
    refine rr_if_eq 120 pf_61_82 (by decide) (by unfold rg; omega) (fun c1 => ?_) (fun c1 => ?_)
    · refine rr_iload_n pf_61_120 rfl ?_
      refine rr_if_eq 159 pf_61_121 (by decide) (by unfold rg; omega) (fun c2 => ?_) (fun c2 => ?_)
      · exact kx q fi M hq (hS) (hG2) (hfi) (by rw [← hq0]; unfold cC2; rw [if_neg (fun z => by have z1 := z.1; rw [fIs_f hfi (by omega)] at z1; cases z1), if_neg (fun z => by have z1 := z.1; rw [fIs_f hfi (by omega)] at z1; cases z1)])
      · exfalso; omega
    · refine rr_aload_n pf_61_85 rfl ?_
      refine vr_getZ hq pf_61_86 po_61 pg_3_27 rfl (ws_200 hW) (by decide) (fun x3 hx3 rx3 => ?_)
      rw [hS.2.1] at hx3
      have hodx3 := hS.2.2.1
      refine rr_if_eq 120 pf_61_89 (by decide) rx3 (fun c4 => ?_) (fun c4 => ?_)
      · refine rr_iload_n pf_61_120 rfl ?_
        refine rr_if_eq 159 pf_61_121 (by decide) (by unfold rg; omega) (fun c5 => ?_) (fun c5 => ?_)
        · exfalso; omega
        · refine rr_aload_n pf_61_124 rfl ?_
          refine vr_getZ hq pf_61_125 po_61 pg_3_27 rfl (ws_200 hW) (by decide) (fun x6 hx6 rx6 => ?_)
          rw [hS.2.1] at hx6
          have hodx6 := hS.2.2.1
          refine rr_if_eq 159 pf_61_128 (by decide) rx6 (fun c7 => ?_) (fun c7 => ?_)
          · exact kx q fi M hq (hS) (hG2) (hfi) (by rw [← hq0]; unfold cC2; rw [if_neg (fun z => by have z1 := z.2.1; omega), if_neg (fun z => by have z1 := z.2.1; omega)])
          · exfalso; omega
      · refine rr_iload_n pf_61_92 rfl ?_
        refine rr_iconst pf_61_93 ?_
        refine rr_icmp_ne 120 pf_61_94 (by decide) (by unfold rg; omega) (by unfold rg; omega) (fun c8 => ?_) (fun c8 => ?_)
        · refine rr_iload_n pf_61_120 rfl ?_
          refine rr_if_eq 159 pf_61_121 (by decide) (by unfold rg; omega) (fun c9 => ?_) (fun c9 => ?_)
          · exfalso; omega
          · refine rr_aload_n pf_61_124 rfl ?_
            refine vr_getZ hq pf_61_125 po_61 pg_3_27 rfl (ws_200 hW) (by decide) (fun x10 hx10 rx10 => ?_)
            rw [hS.2.1] at hx10
            have hodx10 := hS.2.2.1
            refine rr_if_eq 159 pf_61_128 (by decide) rx10 (fun c11 => ?_) (fun c11 => ?_)
            · exfalso; omega
            · refine rr_iload_n pf_61_131 rfl ?_
              refine rr_iconst pf_61_132 ?_
              refine rr_icmp_ne 159 pf_61_133 (by decide) (by unfold rg; omega) (by unfold rg; omega) (fun c12 => ?_) (fun c12 => ?_)
              · exact kx q fi M hq (hS) (hG2) (hfi) (by rw [← hq0]; unfold cC2; rw [if_neg (fun z => by have z1 := z.2.2; omega), if_neg (fun z => by have z1 := z.2.2; omega)])
              · refine rr_aload_n pf_61_136 rfl ?_
                refine rr_ldcS pf_61_137 po_61 ps_3_96.1 ps_3_96.2 ?_
                obtain ⟨M13, ⟨kq14, pSM13⟩, hcM13⟩ := ct_CS_wanted (xs := xs) (L := L) (d := d) (E := E) (cl := cl) (s := q.2.1) (t := 7) (by omega) hW hq.1 hq.2.1 hS (by decide) let_7 hwD_7 (by decide +kernel)
                have q14 := qk_trm hq kq14 (by decide)
                have hg15 : M13 204 = q.2.2 := (kq14.2.2 204 (by decide)).trans hG2
                refine rr_cV1 pf_61_139 po_61 pc_3_92 (ws_200 hW) po_84 (by decide) rfl hcM13 ?_
                refine rr_ifb_eq 157 pf_61_142 (by decide) (fun c16 => ?_) (fun c16 => ?_)
                · have pS17 := pSM13
                  rw [if_neg c16] at pS17
                  have hcw := c16
                  refine rr_iconst pf_61_157 ?_
                  refine rr_istore_n pf_61_158 (fun y => [.ref 200, .int (iI (kd)), .int (iI (al)), .int (iI (y))]) (Nat.le_of_ble_eq_true rfl) (fun _ => rfl) (fun y18 hy18 => ?_)
                  exact kx (false, cfl E q.2.1, q.2.2) y18 M13 q14 (pS17) (hg15) (Or.inr ⟨by omega, rfl⟩) (by rw [← hq0]; unfold cC2; rw [if_neg (fun z => by have z1 := z.2.2; omega), if_pos ⟨fIs_t hfi (by omega), by omega, by omega⟩]; unfold wsm; rw [if_neg hcw])
                · have pS19 := pSM13
                  rw [if_pos c16] at pS19
                  have hcw := c16
                  refine rr_aload_n pf_61_145 rfl ?_
                  refine rr_iconst pf_61_146 ?_
                  obtain ⟨M20, ⟨kq21, pSM20, pgM20⟩, hcM20⟩ := ct_CS_sumAs (xs := xs) (L := L) (d := d) (E := E) (cl := cl) (s := (cnx E q.2.1)) (g := q.2.2) (p := 4) (by omega) hW q14.1 q14.2.1 pS19 hcl hg15 (by omega)
                  rw [show ((4 : Nat) : Int) = 4 by omega] at hcM20
                  have q21 := qk_trm q14 kq21 (by decide)
                  refine rr_cV1 pf_61_147 po_61 pc_3_86 (ws_200 hW) po_72 (by decide) rfl hcM20 ?_
                  refine rr_ifb_eq 157 pf_61_150 (by decide) (fun c22 => ?_) (fun c22 => ?_)
                  · have hsr : (sAs E (8 * cl + 4) (cnx E q.2.1) q.2.2).1 = false := eq_false_of_ne_true c22
                    refine rr_iconst pf_61_157 ?_
                    refine rr_istore_n pf_61_158 (fun y => [.ref 200, .int (iI (kd)), .int (iI (al)), .int (iI (y))]) (Nat.le_of_ble_eq_true rfl) (fun _ => rfl) (fun y23 hy23 => ?_)
                    exact kx (sAs E (8 * cl + 4) (cnx E q.2.1) q.2.2) y23 M20 q21 (pSM20) (pgM20) (Or.inr ⟨by omega, hsr⟩) (by rw [← hq0]; unfold cC2; rw [if_neg (fun z => by have z1 := z.2.2; omega), if_pos ⟨fIs_t hfi (by omega), by omega, by omega⟩]; unfold wsm; rw [if_pos hcw])
                  · have hsr := c22
                    refine rr_iconst pf_61_153 ?_
                    refine rr_goto 158 pf_61_154 (by decide) ?_
                    refine rr_istore_n pf_61_158 (fun y => [.ref 200, .int (iI (kd)), .int (iI (al)), .int (iI (y))]) (Nat.le_of_ble_eq_true rfl) (fun _ => rfl) (fun y24 hy24 => ?_)
                    exact kx (sAs E (8 * cl + 4) (cnx E q.2.1) q.2.2) y24 M20 q21 (pSM20) (pgM20) (Or.inl ⟨by omega, hsr⟩) (by rw [← hq0]; unfold cC2; rw [if_neg (fun z => by have z1 := z.2.2; omega), if_pos ⟨fIs_t hfi (by omega), by omega, by omega⟩]; unfold wsm; rw [if_pos hcw])
        · refine rr_aload_n pf_61_97 rfl ?_
          refine rr_ldcS pf_61_98 po_61 ps_3_90.1 ps_3_90.2 ?_
          obtain ⟨M25, ⟨kq26, pSM25⟩, hcM25⟩ := ct_CS_wanted (xs := xs) (L := L) (d := d) (E := E) (cl := cl) (s := q.2.1) (t := 6) (by omega) hW hq.1 hq.2.1 hS (by decide) let_6 hwD_6 (by decide +kernel)
          have q26 := qk_trm hq kq26 (by decide)
          have hg27 : M25 204 = q.2.2 := (kq26.2.2 204 (by decide)).trans hG2
          refine rr_cV1 pf_61_100 po_61 pc_3_92 (ws_200 hW) po_84 (by decide) rfl hcM25 ?_
          refine rr_ifb_eq 118 pf_61_103 (by decide) (fun c28 => ?_) (fun c28 => ?_)
          · have pS29 := pSM25
            rw [if_neg c28] at pS29
            have hcw := c28
            refine rr_iconst pf_61_118 ?_
            refine rr_istore_n pf_61_119 (fun y => [.ref 200, .int (iI (kd)), .int (iI (al)), .int (iI (y))]) (Nat.le_of_ble_eq_true rfl) (fun _ => rfl) (fun y30 hy30 => ?_)
            refine rr_iload_n pf_61_120 rfl ?_
            refine rr_if_eq 159 pf_61_121 (by decide) (by unfold rg; omega) (fun c31 => ?_) (fun c31 => ?_)
            · exact kx (false, cfl E q.2.1, q.2.2) y30 M25 q26 (pS29) (hg27) (Or.inr ⟨by omega, rfl⟩) (by rw [← hq0]; unfold cC2; rw [if_pos ⟨fIs_t hfi (by omega), by omega, by omega⟩]; unfold wsm; rw [if_neg hcw])
            · exfalso; omega
          · have pS32 := pSM25
            rw [if_pos c28] at pS32
            have hcw := c28
            refine rr_aload_n pf_61_106 rfl ?_
            refine rr_iconst pf_61_107 ?_
            obtain ⟨M33, ⟨kq34, pSM33, pgM33⟩, hcM33⟩ := ct_CS_sumAs (xs := xs) (L := L) (d := d) (E := E) (cl := cl) (s := (cnx E q.2.1)) (g := q.2.2) (p := 4) (by omega) hW q26.1 q26.2.1 pS32 hcl hg27 (by omega)
            rw [show ((4 : Nat) : Int) = 4 by omega] at hcM33
            have q34 := qk_trm q26 kq34 (by decide)
            refine rr_cV1 pf_61_108 po_61 pc_3_86 (ws_200 hW) po_72 (by decide) rfl hcM33 ?_
            refine rr_ifb_eq 118 pf_61_111 (by decide) (fun c35 => ?_) (fun c35 => ?_)
            · have hsr : (sAs E (8 * cl + 4) (cnx E q.2.1) q.2.2).1 = false := eq_false_of_ne_true c35
              refine rr_iconst pf_61_118 ?_
              refine rr_istore_n pf_61_119 (fun y => [.ref 200, .int (iI (kd)), .int (iI (al)), .int (iI (y))]) (Nat.le_of_ble_eq_true rfl) (fun _ => rfl) (fun y36 hy36 => ?_)
              refine rr_iload_n pf_61_120 rfl ?_
              refine rr_if_eq 159 pf_61_121 (by decide) (by unfold rg; omega) (fun c37 => ?_) (fun c37 => ?_)
              · exact kx (sAs E (8 * cl + 4) (cnx E q.2.1) q.2.2) y36 M33 q34 (pSM33) (pgM33) (Or.inr ⟨by omega, hsr⟩) (by rw [← hq0]; unfold cC2; rw [if_pos ⟨fIs_t hfi (by omega), by omega, by omega⟩]; unfold wsm; rw [if_pos hcw])
              · exfalso; omega
            · have hsr := c35
              refine rr_iconst pf_61_114 ?_
              refine rr_goto 119 pf_61_115 (by decide) ?_
              refine rr_istore_n pf_61_119 (fun y => [.ref 200, .int (iI (kd)), .int (iI (al)), .int (iI (y))]) (Nat.le_of_ble_eq_true rfl) (fun _ => rfl) (fun y38 hy38 => ?_)
              refine rr_iload_n pf_61_120 rfl ?_
              refine rr_if_eq 159 pf_61_121 (by decide) (by unfold rg; omega) (fun c39 => ?_) (fun c39 => ?_)
              · exfalso; omega
              · refine rr_aload_n pf_61_124 rfl ?_
                refine vr_getZ q34 pf_61_125 po_61 pg_3_27 rfl (ws_200 hW) (by decide) (fun x40 hx40 rx40 => ?_)
                rw [pSM33.2.1] at hx40
                have hodx40 := pSM33.2.2.1
                refine rr_if_eq 159 pf_61_128 (by decide) rx40 (fun c41 => ?_) (fun c41 => ?_)
                · exfalso; omega
                · refine rr_iload_n pf_61_131 rfl ?_
                  refine rr_iconst pf_61_132 ?_
                  refine rr_icmp_ne 159 pf_61_133 (by decide) (by unfold rg; omega) (by unfold rg; omega) (fun c42 => ?_) (fun c42 => ?_)
                  · exact kx (sAs E (8 * cl + 4) (cnx E q.2.1) q.2.2) y38 M33 q34 (pSM33) (pgM33) (Or.inl ⟨by omega, hsr⟩) (by rw [← hq0]; unfold cC2; rw [if_pos ⟨fIs_t hfi (by omega), by omega, by omega⟩]; unfold wsm; rw [if_pos hcw])
                  · exfalso; omega
theorem ct_CS_clause {xs : Nat → Int} {L d : Nat} {sh : List (Nat × Nat)} {M0 : Nat → Nat → Int} (hd : 41 ≤ d) (hW : px_W0 <+: sh) (hF : px_Fx M0) (hG : px_RG sh M0)  {E : rdE} {cl : Nat} {s : cS} (hs : CS M0 E cl s) (hcl : cl < 12) {g : Nat → Int} (hg : M0 204 = g) : ∃ M, (px_qk sh [200, 201, 202, 203, 204] M0 M ∧ (CS M E (if (cCl E cl s g).1 = true then cl + 1 else cl) (cCl E cl s g).2.1) ∧ (M 204 = (cCl E cl s g).2.2)) ∧ px_Cl xs L d 61 [.ref 200] (sh, M0) (some (.int (iI (bI ((cCl E cl s g).1 = true))))) (sh, M) := by
  obtain ⟨d, rfl⟩ : ∃ e, d = e + 1 := ⟨d - 1, by omega⟩
  have q0 : px_qk sh [200, 201, 202, 203, 204] M0 M0 := ⟨hF, hG, eo_rf⟩
  refine vc_n (Nat.le_of_ble_eq_true rfl) ?_
  show px_R xs L d 61 (0, [.ref 200, px_jk, px_jk, px_jk], [], (sh, M0)) (fun r h' => r = some (.int (iI (bI ((cCl E cl s g).1 = true)))) ∧ ∃ M', h' = (sh, M') ∧ px_qk sh [200, 201, 202, 203, 204] M0 M' ∧ CS M' E (if (cCl E cl s g).1 = true then cl + 1 else cl) (cCl E cl s g).2.1 ∧ M' 204 = (cCl E cl s g).2.2)
  refine rr_aload_n pf_61_0 rfl ?_
  refine rr_aload_n pf_61_1 rfl ?_
  refine vr_getZ q0 pf_61_2 po_61 pg_3_27 rfl (ws_200 hW) (by decide) (fun x1 hx1 rx1 => ?_)
  rw [hs.2.1] at hx1
  have hodx1 := hs.2.2.1
  refine rr_if_eq 13 pf_61_5 (by decide) rx1 (fun c2 => ?_) (fun c2 => ?_)
  · refine rr_ldcS pf_61_13 po_61 ps_3_76.1 ps_3_76.2 ?_
    obtain ⟨r5, M3, ⟨kq4, pvM3⟩, hcM3⟩ := ct_Reader_indexIn (xs := xs) (L := L) (d := d) (t := 1) (by omega) hW q0.1 q0.2.1 hs.lx (by decide) let_1 hwD_1
    obtain rfl := qk_nil kq4
    have hkbr5 := kAt_b (hw 1) (tkK E.tn E.tb (s).i) (tkW E.tn E.tb (s).i) (wn 1)
    rw [show wn 1 = 4 by decide +kernel] at hkbr5 pvM3
    refine rr_cV1 pf_61_15 po_61 pc_3_78 (ws_200 hW) po_62 (by decide) rfl hcM3 ?_
    refine rr_istore_n pf_61_18 (fun y => [.ref 200, .int (iI (y)), px_jk, px_jk]) (Nat.le_of_ble_eq_true rfl) (fun _ => rfl) (fun y6 hy6 => ?_)
    have hkd : y6 = cKd E s := by
      unfold cKd; rw [if_neg (by omega)]; rw [hy6]; exact pvM3
    refine rr_iload_n pf_61_19 rfl ?_
    refine rr_iconst pf_61_20 ?_
    refine rr_icmp_ne 29 pf_61_21 (by decide) (by unfold rg; omega) (by unfold rg; omega) (fun c7 => ?_) (fun c7 => ?_)
    · refine rr_aload_n pf_61_29 rfl ?_
      obtain ⟨M8, ⟨kq9, pSM8⟩, hcM8⟩ := ct_CS_next (xs := xs) (L := L) (d := d) (E := E) (cl := cl) (s := s) (by omega) hW q0.1 q0.2.1 hs 
      have q9 := qk_trm q0 kq9 (by decide)
      have hg10 : M8 204 = g := (kq9.2.2 204 (by decide)).trans hg
      refine rr_cV0 pf_61_30 po_61 pc_3_57 (ws_200 hW) po_59 (by decide) rfl hcM8 ?_
      refine rr_aload_n pf_61_33 rfl ?_
      refine rr_getR pf_61_34 po_61 pg_3_14 rfl (ws_200 hW) (by decide) (wr_200_0 q9.1) ?_
      refine rr_iload_n pf_61_37 rfl ?_
      obtain ⟨M11, ⟨kq12, pgM11⟩, hcM11⟩ := ct_Text_begin (xs := xs) (L := L) (d := d) (cl := cl) (k := y6) (by omega) hW q9.1 q9.2.1 pSM8.n hcl (by unfold rg; omega)
      rw [hg10] at pgM11
      have q12 := qk_trm q9 kq12 (by decide)
      have pS13 := CS_q pSM8 kq12 (by decide) (by decide) (by decide) (by decide) (by decide)
      refine rr_cV1 pf_61_38 po_61 pc_3_82 (ws_201 hW) po_71 (by decide) rfl hcM11 ?_
      refine rr_iload_n pf_61_41 rfl ?_
      refine rr_aload_n pf_61_42 rfl ?_
      refine vr_getZ q12 pf_61_43 po_61 pg_3_27 rfl (ws_200 hW) (by decide) (fun x14 hx14 rx14 => ?_)
      rw [pS13.2.1] at hx14
      have hodx14 := pS13.2.2.1
      refine rr_if_eq 53 pf_61_46 (by decide) rx14 (fun c15 => ?_) (fun c15 => ?_)
      · refine rr_iconst pf_61_53 ?_
        refine rr_icmp_ne 61 pf_61_54 (by decide) (by unfold rg; omega) (by unfold rg; omega) (fun c16 => ?_) (fun c16 => ?_)
        · refine rr_iconst pf_61_61 ?_
          refine rr_istore_n pf_61_62 (fun y => [.ref 200, .int (iI (y6)), .int (iI (y)), px_jk]) (Nat.le_of_ble_eq_true rfl) (fun _ => rfl) (fun y17 hy17 => ?_)
          refine rr_iload_n pf_61_63 rfl ?_
          refine rr_if_ne 75 pf_61_64 (by decide) (by unfold rg; omega) (fun c18 => ?_) (fun c18 => ?_)
          · exfalso; omega
          · refine rr_aload_n pf_61_67 rfl ?_
            refine rr_iconst pf_61_68 ?_
            obtain ⟨M19, ⟨kq20, pSM19, pgM19⟩, hcM19⟩ := ct_CS_sumAs (xs := xs) (L := L) (d := d) (E := E) (cl := cl) (s := (cnx E s)) (g := (bgn (8 * cl) y6 g)) (p := 2) (by omega) hW q12.1 q12.2.1 pS13 hcl pgM11 (by omega)
            rw [show ((2 : Nat) : Int) = 2 by omega] at hcM19
            have q20 := qk_trm q12 kq20 (by decide)
            refine rr_cV1 pf_61_69 po_61 pc_3_86 (ws_200 hW) po_72 (by decide) rfl hcM19 ?_
            refine rr_ifb_eq 79 pf_61_72 (by decide) (fun c21 => ?_) (fun c21 => ?_)
            · have hsr := c21
              refine rr_iconst pf_61_79 ?_
              refine rr_istore_n pf_61_80 (fun y => [.ref 200, .int (iI (y6)), .int (iI (y17)), .int (iI (y))]) (Nat.le_of_ble_eq_true rfl) (fun _ => rfl) (fun y22 hy22 => ?_)
              have hC1 : (cC1 E cl y6 (cnx E s) (bgn (8 * cl) y6 g)) = sAs E (8 * cl + 2) (cnx E s) (bgn (8 * cl) y6 g) := by unfold cC1; rw [if_neg (by split <;> omega)]
              have pS23 : CS M19 E cl (cC1 E cl y6 (cnx E s) (bgn (8 * cl) y6 g)).2.1 := by rw [hC1]; exact pSM19
              have hg24 : M19 204 = (cC1 E cl y6 (cnx E s) (bgn (8 * cl) y6 g)).2.2 := by rw [hC1]; exact pgM19
              have hff : fIs y22 (cC1 E cl y6 (cnx E s) (bgn (8 * cl) y6 g)).1 := by rw [hC1]; exact Or.inr ⟨by omega, eq_false_of_ne_true hsr⟩
              refine lp_CS_clause_81 (xs := xs) (L := L) (d := d) (by omega) hW hcl (by omega) (q0 := (cC1 E cl y6 (cnx E s) (bgn (8 * cl) y6 g))) (fun q_25 fi_26  M27 q28 xS_M27 xG_M27 xF_M27 xE_M27 => ?_) _ (cC1 E cl y6 (cnx E s) (bgn (8 * cl) y6 g)) y22 M19 rfl q20 (pS23) (hg24) (hff) (by rfl)
              have hf01 := fIs_01 xF_M27
              refine lp_CS_clause_159 (xs := xs) (L := L) (d := d) (by omega) hW hcl (by omega) (q0 := q_25) (fun q_29 fi_30  M31 q32 xS_M31 xG_M31 xF_M31 xE_M31 => ?_) _ q_25 fi_26 M27 rfl q28 (xS_M27) (xG_M27) (xF_M27) (by rfl)
              have hf01 := fIs_01 xF_M31
              refine lp_CS_clause_184 (xs := xs) (L := L) (d := d) (by omega) hW hcl (by omega) (q0 := q_29) (fun q_33 fi_34  M35 q36 xS_M35 xG_M35 xF_M35 xE_M35 => ?_) _ q_29 fi_30 M31 rfl q32 (xS_M31) (xG_M31) (xF_M31) (by rfl)
              have hf01 := fIs_01 xF_M35
              have hF : cCl E cl s g = q_33 := by
                unfold cCl; rw [if_neg (by rw [← hkd]; omega), ← hkd, ← xE_M27, ← xE_M31, ← xE_M35]
              refine rr_iload_n pf_61_239 rfl ?_
              refine rr_if_eq 256 pf_61_240 (by decide) (by unfold rg; omega) (fun c37 => ?_) (fun c37 => ?_)
              · have hyv : fi_34 = bI ((cCl E cl s g).1 = true) := by
                  rw [hF]; rcases xF_M35 with z | z
                  · rw [bI_t z.2]; exact z.1
                  · rw [bI_f (by rw [z.2]; decide)]; exact z.1
                refine rr_iload_n pf_61_256 rfl ?_
                refine rr_zret pf_61_257 pt_61 (by first | exact Or.inl rfl | exact Or.inr rfl | omega) ⟨by congr 3; try exact hyv, M35, rfl, q36, (by rw [hF, if_neg (by rw [fIs_f xF_M35 (by omega)]; decide)]; exact xS_M35), (by rw [hF]; exact xG_M35)⟩
              · refine rr_aload_n pf_61_243 rfl ?_
                refine rr_getR pf_61_244 po_61 pg_3_14 rfl (ws_200 hW) (by decide) (wr_200_0 q36.1) ?_
                refine rr_dup pf_61_247 rfl ?_
                refine vr_getI q36 pf_61_248 po_61 pg_3_68 rfl (ws_201 hW) (by decide) (fun x38 hx38 rx38 => ?_)
                rw [xS_M35.n] at hx38
                refine rr_iconst pf_61_251 ?_
                refine rr_iadd pf_61_252 ?_
                refine vr_putI hW q36 pf_61_253 po_61 pg_3_68 (Or.inl rfl) rfl (ws_201 hW) (by decide) (by unfold rg; omega) (by decide) (fun M39 eM39 q40 => ?_)
                have hyv : fi_34 = bI ((cCl E cl s g).1 = true) := by
                  rw [hF]; rcases xF_M35 with z | z
                  · rw [bI_t z.2]; exact z.1
                  · rw [bI_f (by rw [z.2]; decide)]; exact z.1
                refine rr_iload_n pf_61_256 rfl ?_
                refine rr_zret pf_61_257 pt_61 (by first | exact Or.inl rfl | exact Or.inr rfl | omega) ⟨by congr 3; try exact hyv, M39, rfl, q40, (by rw [hF, if_pos (fIs_t xF_M35 (by omega))]; exact CS_cl xS_M35 (eM39.trans (by rw [hx38]))), (by rw [hF, eM39, ask_ne (by decide)]; exact xG_M35)⟩
            · have hsr := c21
              refine rr_iconst pf_61_75 ?_
              refine rr_goto 80 pf_61_76 (by decide) ?_
              refine rr_istore_n pf_61_80 (fun y => [.ref 200, .int (iI (y6)), .int (iI (y17)), .int (iI (y))]) (Nat.le_of_ble_eq_true rfl) (fun _ => rfl) (fun y41 hy41 => ?_)
              have hC1 : (cC1 E cl y6 (cnx E s) (bgn (8 * cl) y6 g)) = sAs E (8 * cl + 2) (cnx E s) (bgn (8 * cl) y6 g) := by unfold cC1; rw [if_neg (by split <;> omega)]
              have pS42 : CS M19 E cl (cC1 E cl y6 (cnx E s) (bgn (8 * cl) y6 g)).2.1 := by rw [hC1]; exact pSM19
              have hg43 : M19 204 = (cC1 E cl y6 (cnx E s) (bgn (8 * cl) y6 g)).2.2 := by rw [hC1]; exact pgM19
              have hff : fIs y41 (cC1 E cl y6 (cnx E s) (bgn (8 * cl) y6 g)).1 := by rw [hC1]; exact Or.inl ⟨by omega, hsr⟩
              refine lp_CS_clause_81 (xs := xs) (L := L) (d := d) (by omega) hW hcl (by omega) (q0 := (cC1 E cl y6 (cnx E s) (bgn (8 * cl) y6 g))) (fun q_44 fi_45  M46 q47 xS_M46 xG_M46 xF_M46 xE_M46 => ?_) _ (cC1 E cl y6 (cnx E s) (bgn (8 * cl) y6 g)) y41 M19 rfl q20 (pS42) (hg43) (hff) (by rfl)
              have hf01 := fIs_01 xF_M46
              refine lp_CS_clause_159 (xs := xs) (L := L) (d := d) (by omega) hW hcl (by omega) (q0 := q_44) (fun q_48 fi_49  M50 q51 xS_M50 xG_M50 xF_M50 xE_M50 => ?_) _ q_44 fi_45 M46 rfl q47 (xS_M46) (xG_M46) (xF_M46) (by rfl)
              have hf01 := fIs_01 xF_M50
              refine lp_CS_clause_184 (xs := xs) (L := L) (d := d) (by omega) hW hcl (by omega) (q0 := q_48) (fun q_52 fi_53  M54 q55 xS_M54 xG_M54 xF_M54 xE_M54 => ?_) _ q_48 fi_49 M50 rfl q51 (xS_M50) (xG_M50) (xF_M50) (by rfl)
              have hf01 := fIs_01 xF_M54
              have hF : cCl E cl s g = q_52 := by
                unfold cCl; rw [if_neg (by rw [← hkd]; omega), ← hkd, ← xE_M46, ← xE_M50, ← xE_M54]
              refine rr_iload_n pf_61_239 rfl ?_
              refine rr_if_eq 256 pf_61_240 (by decide) (by unfold rg; omega) (fun c56 => ?_) (fun c56 => ?_)
              · have hyv : fi_53 = bI ((cCl E cl s g).1 = true) := by
                  rw [hF]; rcases xF_M54 with z | z
                  · rw [bI_t z.2]; exact z.1
                  · rw [bI_f (by rw [z.2]; decide)]; exact z.1
                refine rr_iload_n pf_61_256 rfl ?_
                refine rr_zret pf_61_257 pt_61 (by first | exact Or.inl rfl | exact Or.inr rfl | omega) ⟨by congr 3; try exact hyv, M54, rfl, q55, (by rw [hF, if_neg (by rw [fIs_f xF_M54 (by omega)]; decide)]; exact xS_M54), (by rw [hF]; exact xG_M54)⟩
              · refine rr_aload_n pf_61_243 rfl ?_
                refine rr_getR pf_61_244 po_61 pg_3_14 rfl (ws_200 hW) (by decide) (wr_200_0 q55.1) ?_
                refine rr_dup pf_61_247 rfl ?_
                refine vr_getI q55 pf_61_248 po_61 pg_3_68 rfl (ws_201 hW) (by decide) (fun x57 hx57 rx57 => ?_)
                rw [xS_M54.n] at hx57
                refine rr_iconst pf_61_251 ?_
                refine rr_iadd pf_61_252 ?_
                refine vr_putI hW q55 pf_61_253 po_61 pg_3_68 (Or.inl rfl) rfl (ws_201 hW) (by decide) (by unfold rg; omega) (by decide) (fun M58 eM58 q59 => ?_)
                have hyv : fi_53 = bI ((cCl E cl s g).1 = true) := by
                  rw [hF]; rcases xF_M54 with z | z
                  · rw [bI_t z.2]; exact z.1
                  · rw [bI_f (by rw [z.2]; decide)]; exact z.1
                refine rr_iload_n pf_61_256 rfl ?_
                refine rr_zret pf_61_257 pt_61 (by first | exact Or.inl rfl | exact Or.inr rfl | omega) ⟨by congr 3; try exact hyv, M58, rfl, q59, (by rw [hF, if_pos (fIs_t xF_M54 (by omega))]; exact CS_cl xS_M54 (eM58.trans (by rw [hx57]))), (by rw [hF, eM58, ask_ne (by decide)]; exact xG_M54)⟩
        · refine rr_iconst pf_61_57 ?_
          refine rr_goto 62 pf_61_58 (by decide) ?_
          refine rr_istore_n pf_61_62 (fun y => [.ref 200, .int (iI (y6)), .int (iI (y)), px_jk]) (Nat.le_of_ble_eq_true rfl) (fun _ => rfl) (fun y60 hy60 => ?_)
          refine rr_iload_n pf_61_63 rfl ?_
          refine rr_if_ne 75 pf_61_64 (by decide) (by unfold rg; omega) (fun c61 => ?_) (fun c61 => ?_)
          · refine rr_iconst pf_61_75 ?_
            refine rr_goto 80 pf_61_76 (by decide) ?_
            refine rr_istore_n pf_61_80 (fun y => [.ref 200, .int (iI (y6)), .int (iI (y60)), .int (iI (y))]) (Nat.le_of_ble_eq_true rfl) (fun _ => rfl) (fun y62 hy62 => ?_)
            have hC1 : (cC1 E cl y6 (cnx E s) (bgn (8 * cl) y6 g)) = (true, cnx E s, bgn (8 * cl) y6 g) := by unfold cC1; rw [if_pos (by split <;> omega)]
            have pS63 : CS M11 E cl (cC1 E cl y6 (cnx E s) (bgn (8 * cl) y6 g)).2.1 := by rw [hC1]; exact pS13
            have hg64 : M11 204 = (cC1 E cl y6 (cnx E s) (bgn (8 * cl) y6 g)).2.2 := by rw [hC1]; exact pgM11
            have hff : fIs y62 (cC1 E cl y6 (cnx E s) (bgn (8 * cl) y6 g)).1 := by rw [hC1]; exact Or.inl ⟨by omega, rfl⟩
            refine lp_CS_clause_81 (xs := xs) (L := L) (d := d) (by omega) hW hcl (by omega) (q0 := (cC1 E cl y6 (cnx E s) (bgn (8 * cl) y6 g))) (fun q_65 fi_66  M67 q68 xS_M67 xG_M67 xF_M67 xE_M67 => ?_) _ (cC1 E cl y6 (cnx E s) (bgn (8 * cl) y6 g)) y62 M11 rfl q12 (pS63) (hg64) (hff) (by rfl)
            have hf01 := fIs_01 xF_M67
            refine lp_CS_clause_159 (xs := xs) (L := L) (d := d) (by omega) hW hcl (by omega) (q0 := q_65) (fun q_69 fi_70  M71 q72 xS_M71 xG_M71 xF_M71 xE_M71 => ?_) _ q_65 fi_66 M67 rfl q68 (xS_M67) (xG_M67) (xF_M67) (by rfl)
            have hf01 := fIs_01 xF_M71
            refine lp_CS_clause_184 (xs := xs) (L := L) (d := d) (by omega) hW hcl (by omega) (q0 := q_69) (fun q_73 fi_74  M75 q76 xS_M75 xG_M75 xF_M75 xE_M75 => ?_) _ q_69 fi_70 M71 rfl q72 (xS_M71) (xG_M71) (xF_M71) (by rfl)
            have hf01 := fIs_01 xF_M75
            have hF : cCl E cl s g = q_73 := by
              unfold cCl; rw [if_neg (by rw [← hkd]; omega), ← hkd, ← xE_M67, ← xE_M71, ← xE_M75]
            refine rr_iload_n pf_61_239 rfl ?_
            refine rr_if_eq 256 pf_61_240 (by decide) (by unfold rg; omega) (fun c77 => ?_) (fun c77 => ?_)
            · have hyv : fi_74 = bI ((cCl E cl s g).1 = true) := by
                rw [hF]; rcases xF_M75 with z | z
                · rw [bI_t z.2]; exact z.1
                · rw [bI_f (by rw [z.2]; decide)]; exact z.1
              refine rr_iload_n pf_61_256 rfl ?_
              refine rr_zret pf_61_257 pt_61 (by first | exact Or.inl rfl | exact Or.inr rfl | omega) ⟨by congr 3; try exact hyv, M75, rfl, q76, (by rw [hF, if_neg (by rw [fIs_f xF_M75 (by omega)]; decide)]; exact xS_M75), (by rw [hF]; exact xG_M75)⟩
            · refine rr_aload_n pf_61_243 rfl ?_
              refine rr_getR pf_61_244 po_61 pg_3_14 rfl (ws_200 hW) (by decide) (wr_200_0 q76.1) ?_
              refine rr_dup pf_61_247 rfl ?_
              refine vr_getI q76 pf_61_248 po_61 pg_3_68 rfl (ws_201 hW) (by decide) (fun x78 hx78 rx78 => ?_)
              rw [xS_M75.n] at hx78
              refine rr_iconst pf_61_251 ?_
              refine rr_iadd pf_61_252 ?_
              refine vr_putI hW q76 pf_61_253 po_61 pg_3_68 (Or.inl rfl) rfl (ws_201 hW) (by decide) (by unfold rg; omega) (by decide) (fun M79 eM79 q80 => ?_)
              have hyv : fi_74 = bI ((cCl E cl s g).1 = true) := by
                rw [hF]; rcases xF_M75 with z | z
                · rw [bI_t z.2]; exact z.1
                · rw [bI_f (by rw [z.2]; decide)]; exact z.1
              refine rr_iload_n pf_61_256 rfl ?_
              refine rr_zret pf_61_257 pt_61 (by first | exact Or.inl rfl | exact Or.inr rfl | omega) ⟨by congr 3; try exact hyv, M79, rfl, q80, (by rw [hF, if_pos (fIs_t xF_M75 (by omega))]; exact CS_cl xS_M75 (eM79.trans (by rw [hx78]))), (by rw [hF, eM79, ask_ne (by decide)]; exact xG_M75)⟩
          · exfalso; omega
      · exfalso; omega
    · have hF : cCl E cl s g = (false, cfl E s, g) := by unfold cCl; rw [if_pos (by rw [← hkd]; omega)]
      refine rr_aload_n pf_61_24 rfl ?_
      obtain ⟨M81, ⟨kq82, pSM81⟩, hcM81⟩ := ct_CS_fail (xs := xs) (L := L) (d := d) (E := E) (cl := cl) (s := s) (by omega) hW q0.1 q0.2.1 hs 
      have q82 := qk_trm q0 kq82 (by decide)
      have hg83 : M81 204 = g := (kq82.2.2 204 (by decide)).trans hg
      refine rr_cV0 pf_61_25 po_61 pc_3_71 (ws_200 hW) po_70 (by decide) rfl hcM81 ?_
      refine rr_zret pf_61_28 pt_61 (by have := bI_rg (False); omega) ⟨by congr 3; exact bI_c (by rw [hF]; exact ⟨False.elim, fun z => by cases z⟩), M81, rfl, q82, (by rw [hF, if_neg (fun z => by cases z)]; exact pSM81), (by rw [hF]; exact hg83)⟩
  · refine rr_ldcS pf_61_8 po_61 ps_3_74.1 ps_3_74.2 ?_
    refine rr_goto 15 pf_61_10 (by decide) ?_
    obtain ⟨r86, M84, ⟨kq85, pvM84⟩, hcM84⟩ := ct_Reader_indexIn (xs := xs) (L := L) (d := d) (t := 0) (by omega) hW q0.1 q0.2.1 hs.lx (by decide) let_0 hwD_0
    obtain rfl := qk_nil kq85
    have hkbr86 := kAt_b (hw 0) (tkK E.tn E.tb (s).i) (tkW E.tn E.tb (s).i) (wn 0)
    rw [show wn 0 = 5 by decide +kernel] at hkbr86 pvM84
    refine rr_cV1 pf_61_15 po_61 pc_3_78 (ws_200 hW) po_62 (by decide) rfl hcM84 ?_
    refine rr_istore_n pf_61_18 (fun y => [.ref 200, .int (iI (y)), px_jk, px_jk]) (Nat.le_of_ble_eq_true rfl) (fun _ => rfl) (fun y87 hy87 => ?_)
    have hkd : y87 = cKd E s := by
      unfold cKd; rw [if_pos (by omega)]; rw [hy87]; exact pvM84
    refine rr_iload_n pf_61_19 rfl ?_
    refine rr_iconst pf_61_20 ?_
    refine rr_icmp_ne 29 pf_61_21 (by decide) (by unfold rg; omega) (by unfold rg; omega) (fun c88 => ?_) (fun c88 => ?_)
    · refine rr_aload_n pf_61_29 rfl ?_
      obtain ⟨M89, ⟨kq90, pSM89⟩, hcM89⟩ := ct_CS_next (xs := xs) (L := L) (d := d) (E := E) (cl := cl) (s := s) (by omega) hW q0.1 q0.2.1 hs 
      have q90 := qk_trm q0 kq90 (by decide)
      have hg91 : M89 204 = g := (kq90.2.2 204 (by decide)).trans hg
      refine rr_cV0 pf_61_30 po_61 pc_3_57 (ws_200 hW) po_59 (by decide) rfl hcM89 ?_
      refine rr_aload_n pf_61_33 rfl ?_
      refine rr_getR pf_61_34 po_61 pg_3_14 rfl (ws_200 hW) (by decide) (wr_200_0 q90.1) ?_
      refine rr_iload_n pf_61_37 rfl ?_
      obtain ⟨M92, ⟨kq93, pgM92⟩, hcM92⟩ := ct_Text_begin (xs := xs) (L := L) (d := d) (cl := cl) (k := y87) (by omega) hW q90.1 q90.2.1 pSM89.n hcl (by unfold rg; omega)
      rw [hg91] at pgM92
      have q93 := qk_trm q90 kq93 (by decide)
      have pS94 := CS_q pSM89 kq93 (by decide) (by decide) (by decide) (by decide) (by decide)
      refine rr_cV1 pf_61_38 po_61 pc_3_82 (ws_201 hW) po_71 (by decide) rfl hcM92 ?_
      refine rr_iload_n pf_61_41 rfl ?_
      refine rr_aload_n pf_61_42 rfl ?_
      refine vr_getZ q93 pf_61_43 po_61 pg_3_27 rfl (ws_200 hW) (by decide) (fun x95 hx95 rx95 => ?_)
      rw [pS94.2.1] at hx95
      have hodx95 := pS94.2.2.1
      refine rr_if_eq 53 pf_61_46 (by decide) rx95 (fun c96 => ?_) (fun c96 => ?_)
      · exfalso; omega
      · refine rr_iconst pf_61_49 ?_
        refine rr_goto 54 pf_61_50 (by decide) ?_
        refine rr_icmp_ne 61 pf_61_54 (by decide) (by unfold rg; omega) (by unfold rg; omega) (fun c97 => ?_) (fun c97 => ?_)
        · refine rr_iconst pf_61_61 ?_
          refine rr_istore_n pf_61_62 (fun y => [.ref 200, .int (iI (y87)), .int (iI (y)), px_jk]) (Nat.le_of_ble_eq_true rfl) (fun _ => rfl) (fun y98 hy98 => ?_)
          refine rr_iload_n pf_61_63 rfl ?_
          refine rr_if_ne 75 pf_61_64 (by decide) (by unfold rg; omega) (fun c99 => ?_) (fun c99 => ?_)
          · exfalso; omega
          · refine rr_aload_n pf_61_67 rfl ?_
            refine rr_iconst pf_61_68 ?_
            obtain ⟨M100, ⟨kq101, pSM100, pgM100⟩, hcM100⟩ := ct_CS_sumAs (xs := xs) (L := L) (d := d) (E := E) (cl := cl) (s := (cnx E s)) (g := (bgn (8 * cl) y87 g)) (p := 2) (by omega) hW q93.1 q93.2.1 pS94 hcl pgM92 (by omega)
            rw [show ((2 : Nat) : Int) = 2 by omega] at hcM100
            have q101 := qk_trm q93 kq101 (by decide)
            refine rr_cV1 pf_61_69 po_61 pc_3_86 (ws_200 hW) po_72 (by decide) rfl hcM100 ?_
            refine rr_ifb_eq 79 pf_61_72 (by decide) (fun c102 => ?_) (fun c102 => ?_)
            · have hsr := c102
              refine rr_iconst pf_61_79 ?_
              refine rr_istore_n pf_61_80 (fun y => [.ref 200, .int (iI (y87)), .int (iI (y98)), .int (iI (y))]) (Nat.le_of_ble_eq_true rfl) (fun _ => rfl) (fun y103 hy103 => ?_)
              have hC1 : (cC1 E cl y87 (cnx E s) (bgn (8 * cl) y87 g)) = sAs E (8 * cl + 2) (cnx E s) (bgn (8 * cl) y87 g) := by unfold cC1; rw [if_neg (by split <;> omega)]
              have pS104 : CS M100 E cl (cC1 E cl y87 (cnx E s) (bgn (8 * cl) y87 g)).2.1 := by rw [hC1]; exact pSM100
              have hg105 : M100 204 = (cC1 E cl y87 (cnx E s) (bgn (8 * cl) y87 g)).2.2 := by rw [hC1]; exact pgM100
              have hff : fIs y103 (cC1 E cl y87 (cnx E s) (bgn (8 * cl) y87 g)).1 := by rw [hC1]; exact Or.inr ⟨by omega, eq_false_of_ne_true hsr⟩
              refine lp_CS_clause_81 (xs := xs) (L := L) (d := d) (by omega) hW hcl (by omega) (q0 := (cC1 E cl y87 (cnx E s) (bgn (8 * cl) y87 g))) (fun q_106 fi_107  M108 q109 xS_M108 xG_M108 xF_M108 xE_M108 => ?_) _ (cC1 E cl y87 (cnx E s) (bgn (8 * cl) y87 g)) y103 M100 rfl q101 (pS104) (hg105) (hff) (by rfl)
              have hf01 := fIs_01 xF_M108
              refine lp_CS_clause_159 (xs := xs) (L := L) (d := d) (by omega) hW hcl (by omega) (q0 := q_106) (fun q_110 fi_111  M112 q113 xS_M112 xG_M112 xF_M112 xE_M112 => ?_) _ q_106 fi_107 M108 rfl q109 (xS_M108) (xG_M108) (xF_M108) (by rfl)
              have hf01 := fIs_01 xF_M112
              refine lp_CS_clause_184 (xs := xs) (L := L) (d := d) (by omega) hW hcl (by omega) (q0 := q_110) (fun q_114 fi_115  M116 q117 xS_M116 xG_M116 xF_M116 xE_M116 => ?_) _ q_110 fi_111 M112 rfl q113 (xS_M112) (xG_M112) (xF_M112) (by rfl)
              have hf01 := fIs_01 xF_M116
              have hF : cCl E cl s g = q_114 := by
                unfold cCl; rw [if_neg (by rw [← hkd]; omega), ← hkd, ← xE_M108, ← xE_M112, ← xE_M116]
              refine rr_iload_n pf_61_239 rfl ?_
              refine rr_if_eq 256 pf_61_240 (by decide) (by unfold rg; omega) (fun c118 => ?_) (fun c118 => ?_)
              · have hyv : fi_115 = bI ((cCl E cl s g).1 = true) := by
                  rw [hF]; rcases xF_M116 with z | z
                  · rw [bI_t z.2]; exact z.1
                  · rw [bI_f (by rw [z.2]; decide)]; exact z.1
                refine rr_iload_n pf_61_256 rfl ?_
                refine rr_zret pf_61_257 pt_61 (by first | exact Or.inl rfl | exact Or.inr rfl | omega) ⟨by congr 3; try exact hyv, M116, rfl, q117, (by rw [hF, if_neg (by rw [fIs_f xF_M116 (by omega)]; decide)]; exact xS_M116), (by rw [hF]; exact xG_M116)⟩
              · refine rr_aload_n pf_61_243 rfl ?_
                refine rr_getR pf_61_244 po_61 pg_3_14 rfl (ws_200 hW) (by decide) (wr_200_0 q117.1) ?_
                refine rr_dup pf_61_247 rfl ?_
                refine vr_getI q117 pf_61_248 po_61 pg_3_68 rfl (ws_201 hW) (by decide) (fun x119 hx119 rx119 => ?_)
                rw [xS_M116.n] at hx119
                refine rr_iconst pf_61_251 ?_
                refine rr_iadd pf_61_252 ?_
                refine vr_putI hW q117 pf_61_253 po_61 pg_3_68 (Or.inl rfl) rfl (ws_201 hW) (by decide) (by unfold rg; omega) (by decide) (fun M120 eM120 q121 => ?_)
                have hyv : fi_115 = bI ((cCl E cl s g).1 = true) := by
                  rw [hF]; rcases xF_M116 with z | z
                  · rw [bI_t z.2]; exact z.1
                  · rw [bI_f (by rw [z.2]; decide)]; exact z.1
                refine rr_iload_n pf_61_256 rfl ?_
                refine rr_zret pf_61_257 pt_61 (by first | exact Or.inl rfl | exact Or.inr rfl | omega) ⟨by congr 3; try exact hyv, M120, rfl, q121, (by rw [hF, if_pos (fIs_t xF_M116 (by omega))]; exact CS_cl xS_M116 (eM120.trans (by rw [hx119]))), (by rw [hF, eM120, ask_ne (by decide)]; exact xG_M116)⟩
            · have hsr := c102
              refine rr_iconst pf_61_75 ?_
              refine rr_goto 80 pf_61_76 (by decide) ?_
              refine rr_istore_n pf_61_80 (fun y => [.ref 200, .int (iI (y87)), .int (iI (y98)), .int (iI (y))]) (Nat.le_of_ble_eq_true rfl) (fun _ => rfl) (fun y122 hy122 => ?_)
              have hC1 : (cC1 E cl y87 (cnx E s) (bgn (8 * cl) y87 g)) = sAs E (8 * cl + 2) (cnx E s) (bgn (8 * cl) y87 g) := by unfold cC1; rw [if_neg (by split <;> omega)]
              have pS123 : CS M100 E cl (cC1 E cl y87 (cnx E s) (bgn (8 * cl) y87 g)).2.1 := by rw [hC1]; exact pSM100
              have hg124 : M100 204 = (cC1 E cl y87 (cnx E s) (bgn (8 * cl) y87 g)).2.2 := by rw [hC1]; exact pgM100
              have hff : fIs y122 (cC1 E cl y87 (cnx E s) (bgn (8 * cl) y87 g)).1 := by rw [hC1]; exact Or.inl ⟨by omega, hsr⟩
              refine lp_CS_clause_81 (xs := xs) (L := L) (d := d) (by omega) hW hcl (by omega) (q0 := (cC1 E cl y87 (cnx E s) (bgn (8 * cl) y87 g))) (fun q_125 fi_126  M127 q128 xS_M127 xG_M127 xF_M127 xE_M127 => ?_) _ (cC1 E cl y87 (cnx E s) (bgn (8 * cl) y87 g)) y122 M100 rfl q101 (pS123) (hg124) (hff) (by rfl)
              have hf01 := fIs_01 xF_M127
              refine lp_CS_clause_159 (xs := xs) (L := L) (d := d) (by omega) hW hcl (by omega) (q0 := q_125) (fun q_129 fi_130  M131 q132 xS_M131 xG_M131 xF_M131 xE_M131 => ?_) _ q_125 fi_126 M127 rfl q128 (xS_M127) (xG_M127) (xF_M127) (by rfl)
              have hf01 := fIs_01 xF_M131
              refine lp_CS_clause_184 (xs := xs) (L := L) (d := d) (by omega) hW hcl (by omega) (q0 := q_129) (fun q_133 fi_134  M135 q136 xS_M135 xG_M135 xF_M135 xE_M135 => ?_) _ q_129 fi_130 M131 rfl q132 (xS_M131) (xG_M131) (xF_M131) (by rfl)
              have hf01 := fIs_01 xF_M135
              have hF : cCl E cl s g = q_133 := by
                unfold cCl; rw [if_neg (by rw [← hkd]; omega), ← hkd, ← xE_M127, ← xE_M131, ← xE_M135]
              refine rr_iload_n pf_61_239 rfl ?_
              refine rr_if_eq 256 pf_61_240 (by decide) (by unfold rg; omega) (fun c137 => ?_) (fun c137 => ?_)
              · have hyv : fi_134 = bI ((cCl E cl s g).1 = true) := by
                  rw [hF]; rcases xF_M135 with z | z
                  · rw [bI_t z.2]; exact z.1
                  · rw [bI_f (by rw [z.2]; decide)]; exact z.1
                refine rr_iload_n pf_61_256 rfl ?_
                refine rr_zret pf_61_257 pt_61 (by first | exact Or.inl rfl | exact Or.inr rfl | omega) ⟨by congr 3; try exact hyv, M135, rfl, q136, (by rw [hF, if_neg (by rw [fIs_f xF_M135 (by omega)]; decide)]; exact xS_M135), (by rw [hF]; exact xG_M135)⟩
              · refine rr_aload_n pf_61_243 rfl ?_
                refine rr_getR pf_61_244 po_61 pg_3_14 rfl (ws_200 hW) (by decide) (wr_200_0 q136.1) ?_
                refine rr_dup pf_61_247 rfl ?_
                refine vr_getI q136 pf_61_248 po_61 pg_3_68 rfl (ws_201 hW) (by decide) (fun x138 hx138 rx138 => ?_)
                rw [xS_M135.n] at hx138
                refine rr_iconst pf_61_251 ?_
                refine rr_iadd pf_61_252 ?_
                refine vr_putI hW q136 pf_61_253 po_61 pg_3_68 (Or.inl rfl) rfl (ws_201 hW) (by decide) (by unfold rg; omega) (by decide) (fun M139 eM139 q140 => ?_)
                have hyv : fi_134 = bI ((cCl E cl s g).1 = true) := by
                  rw [hF]; rcases xF_M135 with z | z
                  · rw [bI_t z.2]; exact z.1
                  · rw [bI_f (by rw [z.2]; decide)]; exact z.1
                refine rr_iload_n pf_61_256 rfl ?_
                refine rr_zret pf_61_257 pt_61 (by first | exact Or.inl rfl | exact Or.inr rfl | omega) ⟨by congr 3; try exact hyv, M139, rfl, q140, (by rw [hF, if_pos (fIs_t xF_M135 (by omega))]; exact CS_cl xS_M135 (eM139.trans (by rw [hx138]))), (by rw [hF, eM139, ask_ne (by decide)]; exact xG_M135)⟩
        · refine rr_iconst pf_61_57 ?_
          refine rr_goto 62 pf_61_58 (by decide) ?_
          refine rr_istore_n pf_61_62 (fun y => [.ref 200, .int (iI (y87)), .int (iI (y)), px_jk]) (Nat.le_of_ble_eq_true rfl) (fun _ => rfl) (fun y141 hy141 => ?_)
          refine rr_iload_n pf_61_63 rfl ?_
          refine rr_if_ne 75 pf_61_64 (by decide) (by unfold rg; omega) (fun c142 => ?_) (fun c142 => ?_)
          · refine rr_iconst pf_61_75 ?_
            refine rr_goto 80 pf_61_76 (by decide) ?_
            refine rr_istore_n pf_61_80 (fun y => [.ref 200, .int (iI (y87)), .int (iI (y141)), .int (iI (y))]) (Nat.le_of_ble_eq_true rfl) (fun _ => rfl) (fun y143 hy143 => ?_)
            have hC1 : (cC1 E cl y87 (cnx E s) (bgn (8 * cl) y87 g)) = (true, cnx E s, bgn (8 * cl) y87 g) := by unfold cC1; rw [if_pos (by split <;> omega)]
            have pS144 : CS M92 E cl (cC1 E cl y87 (cnx E s) (bgn (8 * cl) y87 g)).2.1 := by rw [hC1]; exact pS94
            have hg145 : M92 204 = (cC1 E cl y87 (cnx E s) (bgn (8 * cl) y87 g)).2.2 := by rw [hC1]; exact pgM92
            have hff : fIs y143 (cC1 E cl y87 (cnx E s) (bgn (8 * cl) y87 g)).1 := by rw [hC1]; exact Or.inl ⟨by omega, rfl⟩
            refine lp_CS_clause_81 (xs := xs) (L := L) (d := d) (by omega) hW hcl (by omega) (q0 := (cC1 E cl y87 (cnx E s) (bgn (8 * cl) y87 g))) (fun q_146 fi_147  M148 q149 xS_M148 xG_M148 xF_M148 xE_M148 => ?_) _ (cC1 E cl y87 (cnx E s) (bgn (8 * cl) y87 g)) y143 M92 rfl q93 (pS144) (hg145) (hff) (by rfl)
            have hf01 := fIs_01 xF_M148
            refine lp_CS_clause_159 (xs := xs) (L := L) (d := d) (by omega) hW hcl (by omega) (q0 := q_146) (fun q_150 fi_151  M152 q153 xS_M152 xG_M152 xF_M152 xE_M152 => ?_) _ q_146 fi_147 M148 rfl q149 (xS_M148) (xG_M148) (xF_M148) (by rfl)
            have hf01 := fIs_01 xF_M152
            refine lp_CS_clause_184 (xs := xs) (L := L) (d := d) (by omega) hW hcl (by omega) (q0 := q_150) (fun q_154 fi_155  M156 q157 xS_M156 xG_M156 xF_M156 xE_M156 => ?_) _ q_150 fi_151 M152 rfl q153 (xS_M152) (xG_M152) (xF_M152) (by rfl)
            have hf01 := fIs_01 xF_M156
            have hF : cCl E cl s g = q_154 := by
              unfold cCl; rw [if_neg (by rw [← hkd]; omega), ← hkd, ← xE_M148, ← xE_M152, ← xE_M156]
            refine rr_iload_n pf_61_239 rfl ?_
            refine rr_if_eq 256 pf_61_240 (by decide) (by unfold rg; omega) (fun c158 => ?_) (fun c158 => ?_)
            · have hyv : fi_155 = bI ((cCl E cl s g).1 = true) := by
                rw [hF]; rcases xF_M156 with z | z
                · rw [bI_t z.2]; exact z.1
                · rw [bI_f (by rw [z.2]; decide)]; exact z.1
              refine rr_iload_n pf_61_256 rfl ?_
              refine rr_zret pf_61_257 pt_61 (by first | exact Or.inl rfl | exact Or.inr rfl | omega) ⟨by congr 3; try exact hyv, M156, rfl, q157, (by rw [hF, if_neg (by rw [fIs_f xF_M156 (by omega)]; decide)]; exact xS_M156), (by rw [hF]; exact xG_M156)⟩
            · refine rr_aload_n pf_61_243 rfl ?_
              refine rr_getR pf_61_244 po_61 pg_3_14 rfl (ws_200 hW) (by decide) (wr_200_0 q157.1) ?_
              refine rr_dup pf_61_247 rfl ?_
              refine vr_getI q157 pf_61_248 po_61 pg_3_68 rfl (ws_201 hW) (by decide) (fun x159 hx159 rx159 => ?_)
              rw [xS_M156.n] at hx159
              refine rr_iconst pf_61_251 ?_
              refine rr_iadd pf_61_252 ?_
              refine vr_putI hW q157 pf_61_253 po_61 pg_3_68 (Or.inl rfl) rfl (ws_201 hW) (by decide) (by unfold rg; omega) (by decide) (fun M160 eM160 q161 => ?_)
              have hyv : fi_155 = bI ((cCl E cl s g).1 = true) := by
                rw [hF]; rcases xF_M156 with z | z
                · rw [bI_t z.2]; exact z.1
                · rw [bI_f (by rw [z.2]; decide)]; exact z.1
              refine rr_iload_n pf_61_256 rfl ?_
              refine rr_zret pf_61_257 pt_61 (by first | exact Or.inl rfl | exact Or.inr rfl | omega) ⟨by congr 3; try exact hyv, M160, rfl, q161, (by rw [hF, if_pos (fIs_t xF_M156 (by omega))]; exact CS_cl xS_M156 (eM160.trans (by rw [hx159]))), (by rw [hF, eM160, ask_ne (by decide)]; exact xG_M156)⟩
          · exfalso; omega
    · have hF : cCl E cl s g = (false, cfl E s, g) := by unfold cCl; rw [if_pos (by rw [← hkd]; omega)]
      refine rr_aload_n pf_61_24 rfl ?_
      obtain ⟨M162, ⟨kq163, pSM162⟩, hcM162⟩ := ct_CS_fail (xs := xs) (L := L) (d := d) (E := E) (cl := cl) (s := s) (by omega) hW q0.1 q0.2.1 hs 
      have q163 := qk_trm q0 kq163 (by decide)
      have hg164 : M162 204 = g := (kq163.2.2 204 (by decide)).trans hg
      refine rr_cV0 pf_61_25 po_61 pc_3_71 (ws_200 hW) po_70 (by decide) rfl hcM162 ?_
      refine rr_zret pf_61_28 pt_61 (by have := bI_rg (False); omega) ⟨by congr 3; exact bI_c (by rw [hF]; exact ⟨False.elim, fun z => by cases z⟩), M162, rfl, q163, (by rw [hF, if_neg (fun z => by cases z)]; exact pSM162), (by rw [hF]; exact hg164)⟩

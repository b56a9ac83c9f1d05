/-! the class's reader: tests -/
def jLp (E : rdE) (t : Nat) (op : Int) (g : cS → Bool × cS) : Nat → Bool × cS → Bool × cS
  | 0, r => r
  | f + 1, r => if r.1 = true ∧ cwd E t r.2 then jLp E t op g f ((g (cnx E (cad op 0 r.2))).1, aim r.2.sz (g (cnx E (cad op 0 r.2))).2) else r
theorem jLp_e {E : rdE} {t : Nat} {op : Int} {g : cS → Bool × cS} {r : Bool × cS} (h : ¬ (r.1 = true ∧ cwd E t r.2)) : ∀ f, jLp E t op g f r = r := by
  intro f
  cases f with
  | zero => rfl
  | succ f => rw [jLp, if_neg h]
def cBth (E : rdE) (nest : Option (cS → Bool × cS)) (sm : cS → Bool × cS) (s : cS) : Bool × cS := jLp E 12 3 (cPln E nest sm) 400 (cPln E nest sm s)
def cTst (E : rdE) (nest : Option (cS → Bool × cS)) (sm : cS → Bool × cS) (s : cS) : Bool × cS := jLp E 13 4 (cBth E nest sm) 400 (cBth E nest sm s)
def cTs (E : rdE) : Nat → cS → Bool × cS
  | 0 => cTst E none (cSm E 0)
  | D + 1 => cTst E (some (cTs E D)) (cSm E (D + 1))
theorem lp_CS_both_8 {xs : Nat → Int} {L d : Nat} {sh : List (Nat × Nat)} (hd : 7 ≤ d) (hW : px_W0 <+: sh) {M0 : Nat → Nat → Int}  {E : rdE} {cl : Nat} {s : cS} (hs : CS M0 E cl s) {nest : Option (cS → Bool × cS)} {sm : cS → Bool × cS} {dep dd : Nat} (IHp : rdC xs L sh E cl 89 dep (cPln E nest sm) dd) (hdd : dd + 1 ≤ d + 1)  {Q : Option Value → px_H → Prop} (kx : ∀ (r : Bool × cS) (fi : Int) (j : Nat) (v4 : Value) (M : Nat → Nat → Int), px_qk sh [200, 201, 202, 203] M0 M → (CS M E cl r.2) → (jLp E 12 3 (cPln E nest sm) 400 (cPln E nest sm s) = r) → ((fi = 1 ∧ r.1 = true) ∨ (fi = 0 ∧ r.1 = false)) → px_R xs L d 88 (71, [.ref 200, .int (iI (((dep : Nat) : Int))), .int (iI (fi)), .int (iI (((j : Nat) : Int))), v4], [], (sh, M)) Q)  : ∀ (mz : Nat) (r : Bool × cS) (fi : Int) (j : Nat) (v4 : Value) (M : Nat → Nat → Int), 400 - j = mz → px_qk sh [200, 201, 202, 203] M0 M → (j ≤ 400) → (CS M E cl r.2) → ((fi = 1 ∧ r.1 = true) ∨ (fi = 0 ∧ r.1 = false)) → (jLp E 12 3 (cPln E nest sm) 400 (cPln E nest sm s) = jLp E 12 3 (cPln E nest sm) (400 - j) r) → px_R xs L d 88 (8, [.ref 200, .int (iI (((dep : Nat) : Int))), .int (iI (fi)), .int (iI (((j : Nat) : Int))), v4], [], (sh, M)) Q := by
  intro mz
  induction mz using Nat.strongRecOn with
  | _ mz ih =>
    intro r fi j v4 M hm hq hj hS hfi hE
    have hzb := hS.zb
    refine rr_iload_n pf_88_8 rfl ?_
    refine rr_sipush pf_88_9 (by decide) ?_
    refine rr_icmp_ge 71 pf_88_12 (by decide) (by unfold rg; omega) (by unfold rg; omega) (fun c1 => ?_) (fun c1 => ?_)
    · exact kx r fi j _ M hq (hS) (by rw [hE, show 400 - j = 0 by omega]; rfl) (hfi)
    · refine rr_iload_n pf_88_15 rfl ?_
      refine rr_if_eq 71 pf_88_16 (by decide) (by unfold rg; omega) (fun c2 => ?_) (fun c2 => ?_)
      · exact kx r fi j _ M hq (hS) (by
                      have hr0 : r.1 = false := by
                        rcases hfi with y | y
                        · omega
                        · exact y.2
                      rw [hE]; exact jLp_e (fun z => by rw [hr0] at z; exact absurd z.1 (by decide)) _) (hfi)
      · refine rr_aload_n pf_88_19 rfl ?_
        refine rr_ldcS pf_88_20 po_88 ps_3_138.1 ps_3_138.2 ?_
        obtain ⟨M3, ⟨kq4, pSM3⟩, hcM3⟩ := ct_CS_isWord (xs := xs) (L := L) (d := d) (E := E) (cl := cl) (s := r.2) (t := 12) (by omega) hW hq.1 hq.2.1 hS (by decide) let_12 hwD_12 (by decide +kernel)
        obtain rfl := qk_nil kq4
        refine rr_cV1 pf_88_22 po_88 pc_3_100 (ws_200 hW) po_85 (by decide) rfl hcM3 ?_
        refine rr_ifb_eq 71 pf_88_25 (by decide) (fun c5 => ?_) (fun c5 => ?_)
        · have hcs := c5
          exact kx r fi j _ M hq (hS) (by rw [hE]; exact jLp_e (fun z => hcs z.2) _) (hfi)
        · have hcs := c5
          have hr1 : r.1 = true := by
            rcases hfi with z | z
            · exact z.2
            · omega
          refine rr_aload_n pf_88_28 rfl ?_
          refine rr_getR pf_88_29 po_88 pg_3_14 rfl (ws_200 hW) (by decide) (wr_200_0 hq.1) ?_
          refine vr_getI hq pf_88_32 po_88 pg_3_108 rfl (ws_201 hW) (by decide) (fun x6 hx6 rx6 => ?_)
          rw [hS.z] at hx6
          refine rr_istore pf_88_35 (fun y => [.ref 200, .int (iI (((dep : Nat) : Int))), .int (iI (fi)), .int (iI (((j : Nat) : Int))), .int (iI (y))]) (Nat.le_of_ble_eq_true rfl) (fun _ => rfl) (fun y7 hy7 => ?_)
          have ry7 : rg y7 := hy7 ▸ rx6
          obtain rfl : y7 = ((r.2.sz : Nat) : Int) := by omega
          refine rr_aload_n pf_88_37 rfl ?_
          refine rr_getR pf_88_38 po_88 pg_3_14 rfl (ws_200 hW) (by decide) (wr_200_0 hq.1) ?_
          refine rr_iconst pf_88_41 ?_
          refine rr_iconst pf_88_42 ?_
          obtain ⟨M8, ⟨kq9, pSM8⟩, hcM8⟩ := ct_CS_add (xs := xs) (L := L) (d := d) (E := E) (cl := cl) (s := ((r.2))) (op := 3) (arg := 0) (by omega) hW hq.1 hq.2.1 pSM3 (by unfold rg; omega) (by unfold rg; omega)
          have q9 := qk_trm hq kq9 (by decide)
          refine rr_cV2 pf_88_43 po_88 pc_3_129 (ws_201 hW) po_80 (by decide) rfl hcM8 ?_
          refine rr_aload_n pf_88_46 rfl ?_
          obtain ⟨M10, ⟨kq11, pSM10⟩, hcM10⟩ := ct_CS_next (xs := xs) (L := L) (d := d) (E := E) (cl := cl) (s := (cad 3 0 ((r.2)))) (by omega) hW q9.1 q9.2.1 pSM8 
          have q11 := qk_trm q9 kq11 (by decide)
          refine rr_cV0 pf_88_47 po_88 pc_3_57 (ws_200 hW) po_59 (by decide) rfl hcM10 ?_
          refine rr_aload_n pf_88_50 rfl ?_
          refine rr_iload_n pf_88_51 rfl ?_
          obtain ⟨M12, ⟨kq13, pSM12⟩, hcM12⟩ := IHp d M10 (cnx E (cad 3 0 ((r.2)))) (by omega) q11.1 q11.2.1 pSM10
          have q13 := qk_trm q11 kq13 (by decide)
          refine rr_cV1 pf_88_52 po_88 pc_3_135 (ws_200 hW) po_89 (by decide) rfl hcM12 ?_
          refine rr_istore_n pf_88_55 (fun y => [.ref 200, .int (iI (((dep : Nat) : Int))), .int (iI (y)), .int (iI (((j : Nat) : Int))), .int (iI (((r.2.sz : Nat) : Int)))]) (Nat.le_of_ble_eq_true rfl) (fun _ => rfl) (fun y14 hy14 => ?_)
          have ry14 := bI_rg ((cPln E nest sm (cnx E (cad 3 0 ((r.2))))).1 = true)
          refine rr_aload_n pf_88_56 rfl ?_
          refine rr_getR pf_88_57 po_88 pg_3_14 rfl (ws_200 hW) (by decide) (wr_200_0 q13.1) ?_
          refine rr_iload pf_88_60 rfl ?_
          obtain ⟨M15, ⟨kq16, pSM15⟩, hcM15⟩ := ct_CS_aim (xs := xs) (L := L) (d := d) (E := E) (cl := cl) (s := (cPln E nest sm (cnx E (cad 3 0 ((r.2))))).2) (dc := r.2.sz) (by omega) hW q13.1 q13.2.1 pSM12 (by omega)
          rw [show (((r.2.sz) : Nat) : Int) = ((r.2.sz : Nat) : Int) by omega] at hcM15
          have q16 := qk_trm q13 kq16 (by decide)
          refine rr_cV1 pf_88_62 po_88 pc_3_132 (ws_201 hW) po_90 (by decide) rfl hcM15 ?_
          refine rr_iinc pf_88_65 rfl (fun y => [.ref 200, .int (iI (((dep : Nat) : Int))), .int (iI (y14)), .int (iI (y)), .int (iI (((r.2.sz : Nat) : Int)))]) (fun _ => rfl) (fun y17 hy17 => ?_)
          refine rr_goto 8 pf_88_68 (by decide) ?_
          obtain ⟨nz18, hnz18, rfl⟩ : ∃ zz : Nat, zz = 1 + j ∧ y17 = ((zz : Nat) : Int) := ⟨1 + j, rfl, by omega⟩
          exact ih _ (by omega) ((cPln E nest sm (cnx E (cad 3 0 r.2))).1, aim r.2.sz (cPln E nest sm (cnx E (cad 3 0 r.2))).2) y14 nz18 _ M15 rfl q16 (by omega) (pSM15) (by have z := bI_dj (cPln E nest sm (cnx E (cad 3 0 r.2))).1; rw [hy14]; exact z) (by rw [hE, show 400 - j = (400 - nz18) + 1 by omega, jLp, if_pos ⟨hr1, hcs⟩])
theorem ct_CS_both {xs : Nat → Int} {L d : Nat} {sh : List (Nat × Nat)} {M0 : Nat → Nat → Int} (hd : 8 ≤ d) (hW : px_W0 <+: sh) (hF : px_Fx M0) (hG : px_RG sh M0)  {E : rdE} {cl : Nat} {s : cS} (hs : CS M0 E cl s) {nest : Option (cS → Bool × cS)} {sm : cS → Bool × cS} {dep dd : Nat} (IHp : rdC xs L sh E cl 89 dep (cPln E nest sm) dd) (hdd : dd + 1 ≤ d) : ∃ M, (px_qk sh [200, 201, 202, 203] M0 M ∧ (CS M E cl (cBth E nest sm s).2)) ∧ px_Cl xs L d 88 [.ref 200, .int (iI (((dep : Nat) : Int)))] (sh, M0) (some (.int (iI (bI ((cBth E nest sm s).1 = true))))) (sh, M) := by
  obtain ⟨d, rfl⟩ : ∃ e, d = e + 1 := ⟨d - 1, by omega⟩
  have q0 : px_qk sh [200, 201, 202, 203] M0 M0 := ⟨hF, hG, eo_rf⟩
  refine vc_n (Nat.le_of_ble_eq_true rfl) ?_
  show px_R xs L d 88 (0, [.ref 200, .int (iI (((dep : Nat) : Int))), px_jk, px_jk, px_jk], [], (sh, M0)) (fun r h' => r = some (.int (iI (bI ((cBth E nest sm s).1 = true)))) ∧ ∃ M', h' = (sh, M') ∧ px_qk sh [200, 201, 202, 203] M0 M' ∧ CS M' E cl (cBth E nest sm s).2)
  refine rr_aload_n pf_88_0 rfl ?_
  refine rr_iload_n pf_88_1 rfl ?_
  obtain ⟨M1, ⟨kq2, pSM1⟩, hcM1⟩ := IHp d M0 s (by omega) q0.1 q0.2.1 hs
  have q2 := qk_trm q0 kq2 (by decide)
  refine rr_cV1 pf_88_2 po_88 pc_3_135 (ws_200 hW) po_89 (by decide) rfl hcM1 ?_
  refine rr_istore_n pf_88_5 (fun y => [.ref 200, .int (iI (((dep : Nat) : Int))), .int (iI (y)), px_jk, px_jk]) (Nat.le_of_ble_eq_true rfl) (fun _ => rfl) (fun y3 hy3 => ?_)
  have ry3 := bI_rg ((cPln E nest sm s).1 = true)
  refine rr_iconst pf_88_6 ?_
  refine rr_istore_n pf_88_7 (fun y => [.ref 200, .int (iI (((dep : Nat) : Int))), .int (iI (y3)), .int (iI (y)), px_jk]) (Nat.le_of_ble_eq_true rfl) (fun _ => rfl) (fun y4 hy4 => ?_)
  obtain ⟨nz5, hnz5, rfl⟩ : ∃ zz : Nat, zz = 0 ∧ y4 = ((zz : Nat) : Int) := ⟨0, rfl, by omega⟩
  refine lp_CS_both_8 (xs := xs) (L := L) (d := d) (by omega) hW hs IHp hdd (fun r_6 fi_7 j_8 v11 M9 q10 xS_M9 xE_M9 xf_M9 => ?_) _ (cPln E nest sm s) y3 nz5 _ M1 rfl q2 (by omega) (pSM1) (by have z := bI_dj (cPln E nest sm s).1; rw [hy3]; exact z) (by rw [show nz5 = 0 by omega])
  have hxe : cBth E nest sm s = _ := xE_M9
  have hxS := xS_M9
  rw [← hxe] at hxS
  have hxf : fi_7 = bI ((cBth E nest sm s).1 = true) := by
    rw [hxe]; rcases xf_M9 with z | z
    · rw [bI_t z.2]; exact z.1
    · rw [bI_f (by rw [z.2]; decide)]; exact z.1
  have hx01 : fi_7 = 0 ∨ fi_7 = 1 := by rcases xf_M9 with z | z <;> omega
  refine rr_iload_n pf_88_71 rfl ?_
  refine rr_zret pf_88_72 pt_88 (by first | exact Or.inl rfl | exact Or.inr rfl | omega) ⟨by congr 3; try exact hxf, M9, rfl, q10, (hxS)⟩
theorem lp_CS_test_8 {xs : Nat → Int} {L d : Nat} {sh : List (Nat × Nat)} (hd : 7 ≤ d) (hW : px_W0 <+: sh) {M0 : Nat → Nat → Int}  {E : rdE} {cl : Nat} {s : cS} (hs : CS M0 E cl s) {nest : Option (cS → Bool × cS)} {sm : cS → Bool × cS} {dep dd : Nat} (IHb : rdC xs L sh E cl 88 dep (cBth E nest sm) dd) (hdd : dd + 1 ≤ d + 1)  {Q : Option Value → px_H → Prop} (kx : ∀ (r : Bool × cS) (fi : Int) (j : Nat) (v4 : Value) (M : Nat → Nat → Int), px_qk sh [200, 201, 202, 203] M0 M → (CS M E cl r.2) → (jLp E 13 4 (cBth E nest sm) 400 (cBth E nest sm s) = r) → ((fi = 1 ∧ r.1 = true) ∨ (fi = 0 ∧ r.1 = false)) → px_R xs L d 87 (71, [.ref 200, .int (iI (((dep : Nat) : Int))), .int (iI (fi)), .int (iI (((j : Nat) : Int))), v4], [], (sh, M)) Q)  : ∀ (mz : Nat) (r : Bool × cS) (fi : Int) (j : Nat) (v4 : Value) (M : Nat → Nat → Int), 400 - j = mz → px_qk sh [200, 201, 202, 203] M0 M → (j ≤ 400) → (CS M E cl r.2) → ((fi = 1 ∧ r.1 = true) ∨ (fi = 0 ∧ r.1 = false)) → (jLp E 13 4 (cBth E nest sm) 400 (cBth E nest sm s) = jLp E 13 4 (cBth E nest sm) (400 - j) r) → px_R xs L d 87 (8, [.ref 200, .int (iI (((dep : Nat) : Int))), .int (iI (fi)), .int (iI (((j : Nat) : Int))), v4], [], (sh, M)) Q := by
  intro mz
  induction mz using Nat.strongRecOn with
  | _ mz ih =>
    intro r fi j v4 M hm hq hj hS hfi hE
    have hzb := hS.zb
    refine rr_iload_n pf_87_8 rfl ?_
    refine rr_sipush pf_87_9 (by decide) ?_
    refine rr_icmp_ge 71 pf_87_12 (by decide) (by unfold rg; omega) (by unfold rg; omega) (fun c1 => ?_) (fun c1 => ?_)
    · exact kx r fi j _ M hq (hS) (by rw [hE, show 400 - j = 0 by omega]; rfl) (hfi)
    · refine rr_iload_n pf_87_15 rfl ?_
      refine rr_if_eq 71 pf_87_16 (by decide) (by unfold rg; omega) (fun c2 => ?_) (fun c2 => ?_)
      · exact kx r fi j _ M hq (hS) (by
                      have hr0 : r.1 = false := by
                        rcases hfi with y | y
                        · omega
                        · exact y.2
                      rw [hE]; exact jLp_e (fun z => by rw [hr0] at z; exact absurd z.1 (by decide)) _) (hfi)
      · refine rr_aload_n pf_87_19 rfl ?_
        refine rr_ldcS pf_87_20 po_87 ps_3_127.1 ps_3_127.2 ?_
        obtain ⟨M3, ⟨kq4, pSM3⟩, hcM3⟩ := ct_CS_isWord (xs := xs) (L := L) (d := d) (E := E) (cl := cl) (s := r.2) (t := 13) (by omega) hW hq.1 hq.2.1 hS (by decide) let_13 hwD_13 (by decide +kernel)
        obtain rfl := qk_nil kq4
        refine rr_cV1 pf_87_22 po_87 pc_3_100 (ws_200 hW) po_85 (by decide) rfl hcM3 ?_
        refine rr_ifb_eq 71 pf_87_25 (by decide) (fun c5 => ?_) (fun c5 => ?_)
        · have hcs := c5
          exact kx r fi j _ M hq (hS) (by rw [hE]; exact jLp_e (fun z => hcs z.2) _) (hfi)
        · have hcs := c5
          have hr1 : r.1 = true := by
            rcases hfi with z | z
            · exact z.2
            · omega
          refine rr_aload_n pf_87_28 rfl ?_
          refine rr_getR pf_87_29 po_87 pg_3_14 rfl (ws_200 hW) (by decide) (wr_200_0 hq.1) ?_
          refine vr_getI hq pf_87_32 po_87 pg_3_108 rfl (ws_201 hW) (by decide) (fun x6 hx6 rx6 => ?_)
          rw [hS.z] at hx6
          refine rr_istore pf_87_35 (fun y => [.ref 200, .int (iI (((dep : Nat) : Int))), .int (iI (fi)), .int (iI (((j : Nat) : Int))), .int (iI (y))]) (Nat.le_of_ble_eq_true rfl) (fun _ => rfl) (fun y7 hy7 => ?_)
          have ry7 : rg y7 := hy7 ▸ rx6
          obtain rfl : y7 = ((r.2.sz : Nat) : Int) := by omega
          refine rr_aload_n pf_87_37 rfl ?_
          refine rr_getR pf_87_38 po_87 pg_3_14 rfl (ws_200 hW) (by decide) (wr_200_0 hq.1) ?_
          refine rr_iconst pf_87_41 ?_
          refine rr_iconst pf_87_42 ?_
          obtain ⟨M8, ⟨kq9, pSM8⟩, hcM8⟩ := ct_CS_add (xs := xs) (L := L) (d := d) (E := E) (cl := cl) (s := ((r.2))) (op := 4) (arg := 0) (by omega) hW hq.1 hq.2.1 pSM3 (by unfold rg; omega) (by unfold rg; omega)
          have q9 := qk_trm hq kq9 (by decide)
          refine rr_cV2 pf_87_43 po_87 pc_3_129 (ws_201 hW) po_80 (by decide) rfl hcM8 ?_
          refine rr_aload_n pf_87_46 rfl ?_
          obtain ⟨M10, ⟨kq11, pSM10⟩, hcM10⟩ := ct_CS_next (xs := xs) (L := L) (d := d) (E := E) (cl := cl) (s := (cad 4 0 ((r.2)))) (by omega) hW q9.1 q9.2.1 pSM8 
          have q11 := qk_trm q9 kq11 (by decide)
          refine rr_cV0 pf_87_47 po_87 pc_3_57 (ws_200 hW) po_59 (by decide) rfl hcM10 ?_
          refine rr_aload_n pf_87_50 rfl ?_
          refine rr_iload_n pf_87_51 rfl ?_
          obtain ⟨M12, ⟨kq13, pSM12⟩, hcM12⟩ := IHb d M10 (cnx E (cad 4 0 ((r.2)))) (by omega) q11.1 q11.2.1 pSM10
          have q13 := qk_trm q11 kq13 (by decide)
          refine rr_cV1 pf_87_52 po_87 pc_3_124 (ws_200 hW) po_88 (by decide) rfl hcM12 ?_
          refine rr_istore_n pf_87_55 (fun y => [.ref 200, .int (iI (((dep : Nat) : Int))), .int (iI (y)), .int (iI (((j : Nat) : Int))), .int (iI (((r.2.sz : Nat) : Int)))]) (Nat.le_of_ble_eq_true rfl) (fun _ => rfl) (fun y14 hy14 => ?_)
          have ry14 := bI_rg ((cBth E nest sm (cnx E (cad 4 0 ((r.2))))).1 = true)
          refine rr_aload_n pf_87_56 rfl ?_
          refine rr_getR pf_87_57 po_87 pg_3_14 rfl (ws_200 hW) (by decide) (wr_200_0 q13.1) ?_
          refine rr_iload pf_87_60 rfl ?_
          obtain ⟨M15, ⟨kq16, pSM15⟩, hcM15⟩ := ct_CS_aim (xs := xs) (L := L) (d := d) (E := E) (cl := cl) (s := (cBth E nest sm (cnx E (cad 4 0 ((r.2))))).2) (dc := r.2.sz) (by omega) hW q13.1 q13.2.1 pSM12 (by omega)
          rw [show (((r.2.sz) : Nat) : Int) = ((r.2.sz : Nat) : Int) by omega] at hcM15
          have q16 := qk_trm q13 kq16 (by decide)
          refine rr_cV1 pf_87_62 po_87 pc_3_132 (ws_201 hW) po_90 (by decide) rfl hcM15 ?_
          refine rr_iinc pf_87_65 rfl (fun y => [.ref 200, .int (iI (((dep : Nat) : Int))), .int (iI (y14)), .int (iI (y)), .int (iI (((r.2.sz : Nat) : Int)))]) (fun _ => rfl) (fun y17 hy17 => ?_)
          refine rr_goto 8 pf_87_68 (by decide) ?_
          obtain ⟨nz18, hnz18, rfl⟩ : ∃ zz : Nat, zz = 1 + j ∧ y17 = ((zz : Nat) : Int) := ⟨1 + j, rfl, by omega⟩
          exact ih _ (by omega) ((cBth E nest sm (cnx E (cad 4 0 r.2))).1, aim r.2.sz (cBth E nest sm (cnx E (cad 4 0 r.2))).2) y14 nz18 _ M15 rfl q16 (by omega) (pSM15) (by have z := bI_dj (cBth E nest sm (cnx E (cad 4 0 r.2))).1; rw [hy14]; exact z) (by rw [hE, show 400 - j = (400 - nz18) + 1 by omega, jLp, if_pos ⟨hr1, hcs⟩])
theorem ct_CS_test {xs : Nat → Int} {L d : Nat} {sh : List (Nat × Nat)} {M0 : Nat → Nat → Int} (hd : 8 ≤ d) (hW : px_W0 <+: sh) (hF : px_Fx M0) (hG : px_RG sh M0)  {E : rdE} {cl : Nat} {s : cS} (hs : CS M0 E cl s) {nest : Option (cS → Bool × cS)} {sm : cS → Bool × cS} {dep dd : Nat} (IHb : rdC xs L sh E cl 88 dep (cBth E nest sm) dd) (hdd : dd + 1 ≤ d) : ∃ M, (px_qk sh [200, 201, 202, 203] M0 M ∧ (CS M E cl (cTst E nest sm s).2)) ∧ px_Cl xs L d 87 [.ref 200, .int (iI (((dep : Nat) : Int)))] (sh, M0) (some (.int (iI (bI ((cTst E nest sm s).1 = true))))) (sh, M) := by
  obtain ⟨d, rfl⟩ : ∃ e, d = e + 1 := ⟨d - 1, by omega⟩
  have q0 : px_qk sh [200, 201, 202, 203] M0 M0 := ⟨hF, hG, eo_rf⟩
  refine vc_n (Nat.le_of_ble_eq_true rfl) ?_
  show px_R xs L d 87 (0, [.ref 200, .int (iI (((dep : Nat) : Int))), px_jk, px_jk, px_jk], [], (sh, M0)) (fun r h' => r = some (.int (iI (bI ((cTst E nest sm s).1 = true)))) ∧ ∃ M', h' = (sh, M') ∧ px_qk sh [200, 201, 202, 203] M0 M' ∧ CS M' E cl (cTst E nest sm s).2)
  refine rr_aload_n pf_87_0 rfl ?_
  refine rr_iload_n pf_87_1 rfl ?_
  obtain ⟨M1, ⟨kq2, pSM1⟩, hcM1⟩ := IHb d M0 s (by omega) q0.1 q0.2.1 hs
  have q2 := qk_trm q0 kq2 (by decide)
  refine rr_cV1 pf_87_2 po_87 pc_3_124 (ws_200 hW) po_88 (by decide) rfl hcM1 ?_
  refine rr_istore_n pf_87_5 (fun y => [.ref 200, .int (iI (((dep : Nat) : Int))), .int (iI (y)), px_jk, px_jk]) (Nat.le_of_ble_eq_true rfl) (fun _ => rfl) (fun y3 hy3 => ?_)
  have ry3 := bI_rg ((cBth E nest sm s).1 = true)
  refine rr_iconst pf_87_6 ?_
  refine rr_istore_n pf_87_7 (fun y => [.ref 200, .int (iI (((dep : Nat) : Int))), .int (iI (y3)), .int (iI (y)), px_jk]) (Nat.le_of_ble_eq_true rfl) (fun _ => rfl) (fun y4 hy4 => ?_)
  obtain ⟨nz5, hnz5, rfl⟩ : ∃ zz : Nat, zz = 0 ∧ y4 = ((zz : Nat) : Int) := ⟨0, rfl, by omega⟩
  refine lp_CS_test_8 (xs := xs) (L := L) (d := d) (by omega) hW hs IHb hdd (fun r_6 fi_7 j_8 v11 M9 q10 xS_M9 xE_M9 xf_M9 => ?_) _ (cBth E nest sm s) y3 nz5 _ M1 rfl q2 (by omega) (pSM1) (by have z := bI_dj (cBth E nest sm s).1; rw [hy3]; exact z) (by rw [show nz5 = 0 by omega])
  have hxe : cTst E nest sm s = _ := xE_M9
  have hxS := xS_M9
  rw [← hxe] at hxS
  have hxf : fi_7 = bI ((cTst E nest sm s).1 = true) := by
    rw [hxe]; rcases xf_M9 with z | z
    · rw [bI_t z.2]; exact z.1
    · rw [bI_f (by rw [z.2]; decide)]; exact z.1
  have hx01 : fi_7 = 0 ∨ fi_7 = 1 := by rcases xf_M9 with z | z <;> omega
  refine rr_iload_n pf_87_71 rfl ?_
  refine rr_zret pf_87_72 pt_87 (by first | exact Or.inl rfl | exact Or.inr rfl | omega) ⟨by congr 3; try exact hxf, M9, rfl, q10, (hxS)⟩
theorem rd_test {xs : Nat → Int} {L : Nat} {sh : List (Nat × Nat)} {E : rdE} {cl : Nat} (hW : px_W0 <+: sh) : ∀ D, D ≤ 8 → rdC xs L sh E cl 87 (8 - D) (cTs E D) (14 + 3 * D) := by
  intro D
  induction D with
  | zero =>
    intro _
    have hs0 := rd_sum (xs := xs) (L := L) (E := E) (cl := cl) hW 0 (by omega)
    have hp : rdC xs L sh E cl 89 8 (cPln E none (cSm E 0)) 11 := fun d M0 s hd hF hG hs => ct_CS_plain (dd := 10) (by omega) hW hF hG hs (Nat.le_refl 8) ⟨fun _ => Nat.le_refl 8, fun _ => rfl⟩ (fun f hf => by cases hf) hs0 (by omega)
    have hb : rdC xs L sh E cl 88 8 (cBth E none (cSm E 0)) 12 := fun d M0 s hd hF hG hs => ct_CS_both (by omega) hW hF hG hs hp (by omega)
    exact fun d M0 s hd hF hG hs => ct_CS_test (by omega) hW hF hG hs hb (by omega)
  | succ D ih =>
    intro hD
    have hi := ih (by omega)
    have hs0 := rdC_up (rd_sum (xs := xs) (L := L) (E := E) (cl := cl) hW (D + 1) hD) (show 10 + 3 * (D + 1) ≤ 14 + 3 * D by omega)
    have hp : rdC xs L sh E cl 89 (8 - (D + 1)) (cPln E (some (cTs E D)) (cSm E (D + 1))) (14 + 3 * D + 1) := fun d M0 s hd hF hG hs => ct_CS_plain (dd := 14 + 3 * D) (by omega) hW hF hG hs (by omega) ⟨(fun z => by cases z), (fun z => by omega)⟩ (fun f hf => by cases hf; rw [show 8 - (D + 1) + 1 = 8 - D by omega]; exact hi) hs0 (by omega)
    have hb : rdC xs L sh E cl 88 (8 - (D + 1)) (cBth E (some (cTs E D)) (cSm E (D + 1))) (14 + 3 * D + 2) := fun d M0 s hd hF hG hs => ct_CS_both (by omega) hW hF hG hs hp (by omega)
    exact fun d M0 s hd hF hG hs => ct_CS_test (by omega) hW hF hG hs hb (by omega)

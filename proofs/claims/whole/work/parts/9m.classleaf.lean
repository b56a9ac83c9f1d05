/-! the class's reader: code, leaves, parts -/
def cLw (E : rdE) (s : cS) : Bool × cS := if kAt (hw 3) (cK E s) (cW E s) 12 = -1 then (false, cfl E s) else (true, cnx E (cad 1 (kAt (hw 3) (cK E s) (cW E s) 12) s))
def cOk (E : rdE) (s : cS) : Int := kAt (hw 2) (cK E s) (cW E s) 9
def cOw (E : rdE) (s : cS) : Bool × cS := if cOk E s = -1 then (false, cfl E s) else if cOk E s < 5 then (true, cad 1 (cOk E s) (cbk (cOk E s) (cnx E s))) else if cK E (cnx E s) = 2 ∧ cW E (cnx E s) ≤ (if cOk E s = 8 then 5 else 15) then (true, cnx E (cad 1 (if cOk E s = 8 then 53 + cW E (cnx E s) else 5 + 3 * cW E (cnx E s) + (cOk E s - 5)) (cnx E s))) else (false, cfl E (cnx E s))
def cLf (E : rdE) (s : cS) : Bool × cS := if 50 ≤ s.pa then (false, cfl E s) else if cK E s = 2 ∧ cW E s ≤ 1000 then (true, cnx E (cad 0 (cW E s) (cpi s))) else if E.od = 1 then cOw E (cpi s) else cLw E (cpi s)
def cPrt (E : rdE) (nest : Option (cS → Bool × cS)) (s : cS) : Bool × cS := if csg E 91 s then (match nest with
    | none => (false, cfl E s)
    | some f => if (f (cnx E s)).1 = true then (if csg E 93 (f (cnx E s)).2 then (true, cnx E (f (cnx E s)).2) else (false, cfl E (f (cnx E s)).2)) else (false, (f (cnx E s)).2)) else cLf E s
theorem cnm_c {E : rdE} {s : cS} {x : Int} (hx : x ≤ 1000) : (cK E s = 2 ∧ cnm E.tn E.tb s.i ≤ x) ↔ (cK E s = 2 ∧ cW E s ≤ x) := by
  unfold cnm
  show (tkK E.tn E.tb s.i = 2 ∧ _) ↔ (tkK E.tn E.tb s.i = 2 ∧ tkW E.tn E.tb s.i ≤ x)
  constructor
  · rintro ⟨h1, h2⟩; rw [if_pos h1] at h2; exact ⟨h1, by omega⟩
  · rintro ⟨h1, h2⟩; rw [if_pos h1]; exact ⟨h1, by omega⟩
theorem cnm_v {E : rdE} {s : cS} (h : cK E s = 2 ∧ cW E s ≤ 1000) : cnm E.tn E.tb s.i = cW E s ∧ 0 ≤ cW E s := by
  have h1 : tkK E.tn E.tb s.i = 2 := h.1
  have h2 : tkW E.tn E.tb s.i ≤ 1000 := h.2
  refine ⟨?_, tk_dig h1⟩
  unfold cnm
  rw [if_pos h1]
  show _ = tkW E.tn E.tb s.i
  omega
theorem ct_CS_add {xs : Nat → Int} {L d : Nat} {sh : List (Nat × Nat)} {M0 : Nat → Nat → Int} (hd : 1 ≤ d) (hW : px_W0 <+: sh) (hF : px_Fx M0) (hG : px_RG sh M0)  {E : rdE} {cl : Nat} {s : cS} (hs : CS M0 E cl s) {op arg : Int} (hop : rg op) (harg : rg arg) : ∃ M, (px_qk sh [201, 202, 203] M0 M ∧ (CS M E cl (cad op arg s))) ∧ px_Cl xs L d 80 [.ref 201, .int (iI (op)), .int (iI (arg))] (sh, M0) (none) (sh, M) := by
  obtain ⟨d, rfl⟩ : ∃ e, d = e + 1 := ⟨d - 1, by omega⟩
  have q0 : px_qk sh [201, 202, 203] M0 M0 := ⟨hF, hG, eo_rf⟩
  have hzb := hs.zb
  refine vc_n (Nat.le_of_ble_eq_true rfl) ?_
  show px_R xs L d 80 (0, [.ref 201, .int (iI (op)), .int (iI (arg))], [], (sh, M0)) (fun r h' => r = none ∧ ∃ M', h' = (sh, M') ∧ px_qk sh [201, 202, 203] M0 M' ∧ CS M' E cl (cad op arg s))
  refine rr_aload_n pf_80_0 rfl ?_
  refine vr_getI q0 pf_80_1 po_80 pg_6_7 rfl (ws_201 hW) (by decide) (fun x1 hx1 rx1 => ?_)
  rw [hs.z] at hx1
  refine rr_aload_n pf_80_4 rfl ?_
  refine rr_getR pf_80_5 po_80 pg_6_26 rfl (ws_201 hW) (by decide) (wr_201_0 q0.1) ?_
  refine rr_alen pf_80_8 (ws_202 hW) (by decide) ?_
  refine rr_icmp_ge 42 pf_80_9 (by decide) rx1 (by unfold rg; omega) (fun c2 => ?_) (fun c2 => ?_)
  · refine rr_vret pf_80_42 pt_80 ⟨rfl, M0, rfl, q0, (by unfold cad; rw [if_neg (by omega)]; exact hs)⟩
  · refine rr_aload_n pf_80_12 rfl ?_
    refine rr_getR pf_80_13 po_80 pg_6_26 rfl (ws_201 hW) (by decide) (wr_201_0 q0.1) ?_
    refine rr_aload_n pf_80_16 rfl ?_
    refine vr_getI q0 pf_80_17 po_80 pg_6_7 rfl (ws_201 hW) (by decide) (fun x3 hx3 rx3 => ?_)
    rw [hs.z] at hx3
    refine rr_iload_n pf_80_20 rfl ?_
    refine vr_iast (j := s.sz) hW q0 pf_80_21 (ws_202 hW) (by omega) (by omega) (by decide) hop (by decide) (fun M4 eM4 q5 => ?_)
    refine rr_aload_n pf_80_22 rfl ?_
    refine rr_getR pf_80_23 po_80 pg_6_30 rfl (ws_201 hW) (by decide) (wr_201_1 q5.1) ?_
    refine rr_aload_n pf_80_26 rfl ?_
    refine vr_getI q5 pf_80_27 po_80 pg_6_7 rfl (ws_201 hW) (by decide) (fun x6 hx6 rx6 => ?_)
    rw [eM4, ask_ne (by decide), hs.z] at hx6
    refine rr_iload_n pf_80_30 rfl ?_
    refine vr_iast (j := s.sz) hW q5 pf_80_31 (ws_203 hW) (by omega) (by omega) (by decide) harg (by decide) (fun M7 eM7 q8 => ?_)
    refine rr_aload_n pf_80_32 rfl ?_
    refine rr_dup pf_80_33 rfl ?_
    refine vr_getI q8 pf_80_34 po_80 pg_6_7 rfl (ws_201 hW) (by decide) (fun x9 hx9 rx9 => ?_)
    rw [eM7, ask_ne (by decide), eM4, ask_ne (by decide), hs.z] at hx9
    refine rr_iconst pf_80_37 ?_
    refine rr_iadd pf_80_38 ?_
    refine vr_putI hW q8 pf_80_39 po_80 pg_6_7 (Or.inl rfl) rfl (ws_201 hW) (by decide) (by unfold rg; omega) (by decide) (fun M10 eM10 q11 => ?_)
    refine rr_vret pf_80_42 pt_80 ⟨rfl, M10, rfl, q11, (CS_ad hs (by omega) eM4 eM7 (by rw [eM10, hx9]))⟩
theorem ct_CS_aim {xs : Nat → Int} {L d : Nat} {sh : List (Nat × Nat)} {M0 : Nat → Nat → Int} (hd : 2 ≤ d) (hW : px_W0 <+: sh) (hF : px_Fx M0) (hG : px_RG sh M0)  {E : rdE} {cl : Nat} {s : cS} (hs : CS M0 E cl s) {dc : Nat} (hdc : dc ≤ 400) : ∃ M, (px_qk sh [203] M0 M ∧ (CS M E cl (aim dc s))) ∧ px_Cl xs L d 90 [.ref 201, .int (iI (((dc : Nat) : Int)))] (sh, M0) (none) (sh, M) := by
  obtain ⟨d, rfl⟩ : ∃ e, d = e + 1 := ⟨d - 1, by omega⟩
  have q0 : px_qk sh [203] M0 M0 := ⟨hF, hG, eo_rf⟩
  have hzb := hs.zb
  refine vc_n (Nat.le_of_ble_eq_true rfl) ?_
  show px_R xs L d 90 (0, [.ref 201, .int (iI (((dc : Nat) : Int)))], [], (sh, M0)) (fun r h' => r = none ∧ ∃ M', h' = (sh, M') ∧ px_qk sh [203] M0 M' ∧ CS M' E cl (aim dc s))
  refine rr_iload_n pf_90_0 rfl ?_
  refine rr_iconst pf_90_1 ?_
  refine rr_aload_n pf_90_2 rfl ?_
  refine vr_getI q0 pf_90_3 po_90 pg_6_7 rfl (ws_201 hW) (by decide) (fun x1 hx1 rx1 => ?_)
  rw [hs.z] at hx1
  refine rr_iconst pf_90_6 ?_
  refine rr_isub pf_90_7 ?_
  refine rr_cS3 pf_90_8 po_90 pc_6_36 (by decide) rfl (ct_S_within (by omega) (by unfold rg; omega) (by unfold rg; omega) (by unfold rg; omega)) ?_
  refine rr_ifb_eq 24 pf_90_11 (by decide) (fun c2 => ?_) (fun c2 => ?_)
  · refine rr_vret pf_90_24 pt_90 ⟨rfl, M0, rfl, q0, (by unfold aim; rw [if_neg (by omega)]; exact hs)⟩
  · refine rr_aload_n pf_90_14 rfl ?_
    refine rr_getR pf_90_15 po_90 pg_6_30 rfl (ws_201 hW) (by decide) (wr_201_1 q0.1) ?_
    refine rr_iload_n pf_90_18 rfl ?_
    refine rr_aload_n pf_90_19 rfl ?_
    refine vr_getI q0 pf_90_20 po_90 pg_6_7 rfl (ws_201 hW) (by decide) (fun x3 hx3 rx3 => ?_)
    rw [hs.z] at hx3
    refine vr_iast (j := dc) hW q0 pf_90_23 (ws_203 hW) (by omega) (by omega) (by decide) rx3 (by decide) (fun M4 eM4 q5 => ?_)
    refine rr_vret pf_90_24 pt_90 ⟨rfl, M4, rfl, q5, (CS_aim hs (by omega) (by rw [eM4, hx3]))⟩
theorem ct_CS_lawWord {xs : Nat → Int} {L d : Nat} {sh : List (Nat × Nat)} {M0 : Nat → Nat → Int} (hd : 7 ≤ d) (hW : px_W0 <+: sh) (hF : px_Fx M0) (hG : px_RG sh M0)  {E : rdE} {cl : Nat} {s : cS} (hs : CS M0 E cl s) : ∃ M, (px_qk sh [200, 201, 202, 203] M0 M ∧ (CS M E cl (cLw E s).2)) ∧ px_Cl xs L d 82 [.ref 200] (sh, M0) (some (.int (iI (bI ((cLw E s).1 = true))))) (sh, M) := by
  obtain ⟨d, rfl⟩ : ∃ e, d = e + 1 := ⟨d - 1, by omega⟩
  have q0 : px_qk sh [200, 201, 202, 203] M0 M0 := ⟨hF, hG, eo_rf⟩
  refine vc_n (Nat.le_of_ble_eq_true rfl) ?_
  show px_R xs L d 82 (0, [.ref 200, px_jk], [], (sh, M0)) (fun r h' => r = some (.int (iI (bI ((cLw E s).1 = true)))) ∧ ∃ M', h' = (sh, M') ∧ px_qk sh [200, 201, 202, 203] M0 M' ∧ CS M' E cl (cLw E s).2)
  refine rr_aload_n pf_82_0 rfl ?_
  refine rr_ldcS pf_82_1 po_82 ps_3_170.1 ps_3_170.2 ?_
  obtain ⟨r3, M1, ⟨kq2, pvM1⟩, hcM1⟩ := ct_Reader_indexIn (xs := xs) (L := L) (d := d) (t := 3) (by omega) hW q0.1 q0.2.1 hs.lx (by decide) let_3 hwD_3
  obtain rfl := qk_nil kq2
  have hkbr3 := kAt_b (hw 3) (tkK E.tn E.tb (s).i) (tkW E.tn E.tb (s).i) (wn 3)
  rw [show wn 3 = 12 by decide +kernel] at hkbr3 pvM1
  refine rr_cV1 pf_82_3 po_82 pc_3_78 (ws_200 hW) po_62 (by decide) rfl hcM1 ?_
  refine rr_istore_n pf_82_6 (fun y => [.ref 200, .int (iI (y))]) (Nat.le_of_ble_eq_true rfl) (fun _ => rfl) (fun y4 hy4 => ?_)
  have hk8 : y4 = kAt (hw 3) (cK E s) (cW E s) 12 := by rw [hy4]; exact pvM1
  refine rr_iload_n pf_82_7 rfl ?_
  refine rr_iconst pf_82_8 ?_
  refine rr_icmp_ne 17 pf_82_9 (by decide) (by unfold rg; omega) (by unfold rg; omega) (fun c5 => ?_) (fun c5 => ?_)
  · have hk9 : ¬ kAt (hw 3) (cK E s) (cW E s) 12 = -1 := by omega
    refine rr_aload_n pf_82_17 rfl ?_
    refine rr_getR pf_82_18 po_82 pg_3_14 rfl (ws_200 hW) (by decide) (wr_200_0 q0.1) ?_
    refine rr_iconst pf_82_21 ?_
    refine rr_iload_n pf_82_22 rfl ?_
    obtain ⟨M6, ⟨kq7, pSM6⟩, hcM6⟩ := ct_CS_add (xs := xs) (L := L) (d := d) (E := E) (cl := cl) (s := s) (op := 1) (arg := y4) (by omega) hW q0.1 q0.2.1 hs (by unfold rg; omega) (by unfold rg; omega)
    have q7 := qk_trm q0 kq7 (by decide)
    refine rr_cV2 pf_82_23 po_82 pc_3_129 (ws_201 hW) po_80 (by decide) rfl hcM6 ?_
    refine rr_aload_n pf_82_26 rfl ?_
    obtain ⟨M8, ⟨kq9, pSM8⟩, hcM8⟩ := ct_CS_next (xs := xs) (L := L) (d := d) (E := E) (cl := cl) (s := (cad 1 y4 s)) (by omega) hW q7.1 q7.2.1 pSM6 
    have q9 := qk_trm q7 kq9 (by decide)
    refine rr_cV0 pf_82_27 po_82 pc_3_57 (ws_200 hW) po_59 (by decide) rfl hcM8 ?_
    refine rr_iconst pf_82_30 ?_
    refine rr_zret pf_82_31 pt_82 (by first | exact Or.inl rfl | exact Or.inr rfl | omega) ⟨by rw [bI_t (by unfold cLw; rw [if_neg hk9])], M8, rfl, q9, (by unfold cLw; rw [if_neg hk9, ← hk8]; exact pSM8)⟩
  · have hk9 : kAt (hw 3) (cK E s) (cW E s) 12 = -1 := by omega
    refine rr_aload_n pf_82_12 rfl ?_
    obtain ⟨M10, ⟨kq11, pSM10⟩, hcM10⟩ := ct_CS_fail (xs := xs) (L := L) (d := d) (E := E) (cl := cl) (s := s) (by omega) hW q0.1 q0.2.1 hs 
    have q11 := qk_trm q0 kq11 (by decide)
    refine rr_cV0 pf_82_13 po_82 pc_3_71 (ws_200 hW) po_70 (by decide) rfl hcM10 ?_
    refine rr_zret pf_82_16 pt_82 (by have := bI_rg (False); omega) ⟨by congr 3; exact bI_c (by constructor <;> intro z <;> first | exact absurd z id | (unfold cLw at z; rw [if_pos hk9] at z; cases z)), M10, rfl, q11, (by unfold cLw; rw [if_pos hk9]; exact pSM10)⟩
theorem ct_CS_orderWord {xs : Nat → Int} {L d : Nat} {sh : List (Nat × Nat)} {M0 : Nat → Nat → Int} (hd : 7 ≤ d) (hW : px_W0 <+: sh) (hF : px_Fx M0) (hG : px_RG sh M0)  {E : rdE} {cl : Nat} {s : cS} (hs : CS M0 E cl s) : ∃ M, (px_qk sh [200, 201, 202, 203] M0 M ∧ (CS M E cl (cOw E s).2)) ∧ px_Cl xs L d 81 [.ref 200] (sh, M0) (some (.int (iI (bI ((cOw E s).1 = true))))) (sh, M) := by
  obtain ⟨d, rfl⟩ : ∃ e, d = e + 1 := ⟨d - 1, by omega⟩
  have q0 : px_qk sh [200, 201, 202, 203] M0 M0 := ⟨hF, hG, eo_rf⟩
  refine vc_n (Nat.le_of_ble_eq_true rfl) ?_
  show px_R xs L d 81 (0, [.ref 200, px_jk, px_jk, px_jk], [], (sh, M0)) (fun r h' => r = some (.int (iI (bI ((cOw E s).1 = true)))) ∧ ∃ M', h' = (sh, M') ∧ px_qk sh [200, 201, 202, 203] M0 M' ∧ CS M' E cl (cOw E s).2)
  refine rr_aload_n pf_81_0 rfl ?_
  refine rr_ldcS pf_81_1 po_81 ps_3_172.1 ps_3_172.2 ?_
  obtain ⟨r3, M1, ⟨kq2, pvM1⟩, hcM1⟩ := ct_Reader_indexIn (xs := xs) (L := L) (d := d) (t := 2) (by omega) hW q0.1 q0.2.1 hs.lx (by decide) let_2 hwD_2
  obtain rfl := qk_nil kq2
  have hkbr3 := kAt_b (hw 2) (tkK E.tn E.tb (s).i) (tkW E.tn E.tb (s).i) (wn 2)
  rw [show wn 2 = 9 by decide +kernel] at hkbr3 pvM1
  refine rr_cV1 pf_81_3 po_81 pc_3_78 (ws_200 hW) po_62 (by decide) rfl hcM1 ?_
  refine rr_istore_n pf_81_6 (fun y => [.ref 200, .int (iI (y)), px_jk, px_jk]) (Nat.le_of_ble_eq_true rfl) (fun _ => rfl) (fun y4 hy4 => ?_)
  have hk8 : y4 = cOk E s := by rw [hy4]; exact pvM1
  refine rr_iload_n pf_81_7 rfl ?_
  refine rr_iconst pf_81_8 ?_
  refine rr_icmp_ne 17 pf_81_9 (by decide) (by unfold rg; omega) (by unfold rg; omega) (fun c5 => ?_) (fun c5 => ?_)
  · have hk9 : ¬ cOk E s = -1 := by omega
    refine rr_aload_n pf_81_17 rfl ?_
    obtain ⟨M6, ⟨kq7, pSM6⟩, hcM6⟩ := ct_CS_next (xs := xs) (L := L) (d := d) (E := E) (cl := cl) (s := s) (by omega) hW q0.1 q0.2.1 hs 
    have q7 := qk_trm q0 kq7 (by decide)
    refine rr_cV0 pf_81_18 po_81 pc_3_57 (ws_200 hW) po_59 (by decide) rfl hcM6 ?_
    refine rr_iload_n pf_81_21 rfl ?_
    refine rr_iconst pf_81_22 ?_
    refine rr_icmp_ge 64 pf_81_23 (by decide) (by unfold rg; omega) (by unfold rg; omega) (fun c8 => ?_) (fun c8 => ?_)
    · refine rr_iload_n pf_81_64 rfl ?_
      refine rr_bipush pf_81_65 (by decide) ?_
      refine rr_icmp_ne 74 pf_81_67 (by decide) (by unfold rg; omega) (by unfold rg; omega) (fun c9 => ?_) (fun c9 => ?_)
      · refine rr_bipush pf_81_74 (by decide) ?_
        refine rr_istore_n pf_81_76 (fun y => [.ref 200, .int (iI (y4)), .int (iI (y)), px_jk]) (Nat.le_of_ble_eq_true rfl) (fun _ => rfl) (fun y10 hy10 => ?_)
        refine rr_aload_n pf_81_77 rfl ?_
        refine vr_getI q7 pf_81_78 po_81 pg_3_34 rfl (ws_200 hW) (by decide) (fun x11 hx11 rx11 => ?_)
        rw [pSM6.lx.2.2.2.2.2.2.2.1] at hx11
        refine rr_iconst pf_81_81 ?_
        refine rr_icmp_ne 93 pf_81_82 (by decide) rx11 (by unfold rg; omega) (fun c12 => ?_) (fun c12 => ?_)
        · have hlim : y10 = (if cOk E s = 8 then 5 else 15 : Int) := by rw [← hk8]; split <;> omega
          have hcc := cnm_c (E := E) (s := cnx E s) (x := y10) (by omega)
          have hnum : ¬ (cK E (cnx E s) = 2 ∧ cW E (cnx E s) ≤ (if cOk E s = 8 then 5 else 15)) := by
            rw [← hlim]; intro z; have z2 := hcc.mpr z; have z3 : tkK E.tn E.tb (cnx E s).i = 2 := z2.1; omega
          refine rr_aload_n pf_81_93 rfl ?_
          obtain ⟨M13, ⟨kq14, pSM13⟩, hcM13⟩ := ct_CS_fail (xs := xs) (L := L) (d := d) (E := E) (cl := cl) (s := (cnx E s)) (by omega) hW q7.1 q7.2.1 pSM6 
          have q14 := qk_trm q7 kq14 (by decide)
          refine rr_cV0 pf_81_94 po_81 pc_3_71 (ws_200 hW) po_70 (by decide) rfl hcM13 ?_
          refine rr_zret pf_81_97 pt_81 (by have := bI_rg (False); omega) ⟨by congr 3; exact bI_c (by constructor <;> intro z <;> first | exact absurd z id | (unfold cOw at z; first | (rw [if_pos hk9] at z; cases z) | (rw [if_neg hk9, if_neg (by omega), if_neg hnum] at z; cases z))), M13, rfl, q14, (by unfold cOw; rw [if_neg hk9, if_neg (by omega), if_neg hnum]; exact pSM13)⟩
        · refine rr_aload_n pf_81_85 rfl ?_
          refine vr_getI q7 pf_81_86 po_81 pg_3_43 rfl (ws_200 hW) (by decide) (fun x15 hx15 rx15 => ?_)
          rw [pSM6.lx.2.2.2.2.2.2.2.2] at hx15
          refine rr_iload_n pf_81_89 rfl ?_
          refine rr_icmp_le 98 pf_81_90 (by decide) rx15 (by unfold rg; omega) (fun c16 => ?_) (fun c16 => ?_)
          · have hlim : y10 = (if cOk E s = 8 then 5 else 15 : Int) := by rw [← hk8]; split <;> omega
            have hcc := cnm_c (E := E) (s := cnx E s) (x := y10) (by omega)
            have hnum : cK E (cnx E s) = 2 ∧ cW E (cnx E s) ≤ (if cOk E s = 8 then 5 else 15) := by
              rw [← hlim]; refine hcc.mp ⟨?_, by omega⟩
              show tkK E.tn E.tb (cnx E s).i = 2; omega
            have hcv := cnm_v (E := E) (s := cnx E s) ⟨hnum.1, by have := hnum.2; rw [← hlim] at this; omega⟩
            refine rr_iload_n pf_81_98 rfl ?_
            refine rr_bipush pf_81_99 (by decide) ?_
            refine rr_icmp_ne 114 pf_81_101 (by decide) (by unfold rg; omega) (by unfold rg; omega) (fun c17 => ?_) (fun c17 => ?_)
            · refine rr_iconst pf_81_114 ?_
              refine rr_aload_n pf_81_115 rfl ?_
              refine vr_getI q7 pf_81_116 po_81 pg_3_43 rfl (ws_200 hW) (by decide) (fun x18 hx18 rx18 => ?_)
              rw [pSM6.lx.2.2.2.2.2.2.2.2] at hx18
              refine rr_iconst pf_81_119 ?_
              refine rr_imul pf_81_120 ?_
              refine rr_iadd pf_81_121 ?_
              refine rr_iload_n pf_81_122 rfl ?_
              refine rr_iadd pf_81_123 ?_
              refine rr_iconst pf_81_124 ?_
              refine rr_isub pf_81_125 ?_
              refine rr_istore_n pf_81_126 (fun y => [.ref 200, .int (iI (y4)), .int (iI (y10)), .int (iI (y))]) (Nat.le_of_ble_eq_true rfl) (fun _ => rfl) (fun y19 hy19 => ?_)
              have hval : y19 = 5 + 3 * cW E (cnx E s) + (y4 - 5) := by omega
              have hvb : 0 ≤ y19 ∧ y19 ≤ 1000 := by have := hnum.2; rw [← hlim] at this; omega
              refine rr_aload_n pf_81_127 rfl ?_
              refine rr_getR pf_81_128 po_81 pg_3_14 rfl (ws_200 hW) (by decide) (wr_200_0 q7.1) ?_
              refine rr_iconst pf_81_131 ?_
              refine rr_iload_n pf_81_132 rfl ?_
              obtain ⟨M20, ⟨kq21, pSM20⟩, hcM20⟩ := ct_CS_add (xs := xs) (L := L) (d := d) (E := E) (cl := cl) (s := (cnx E s)) (op := 1) (arg := y19) (by omega) hW q7.1 q7.2.1 pSM6 (by unfold rg; omega) (by unfold rg; omega)
              have q21 := qk_trm q7 kq21 (by decide)
              refine rr_cV2 pf_81_133 po_81 pc_3_129 (ws_201 hW) po_80 (by decide) rfl hcM20 ?_
              refine rr_aload_n pf_81_136 rfl ?_
              obtain ⟨M22, ⟨kq23, pSM22⟩, hcM22⟩ := ct_CS_next (xs := xs) (L := L) (d := d) (E := E) (cl := cl) (s := (cad 1 y19 (cnx E s))) (by omega) hW q21.1 q21.2.1 pSM20 
              have q23 := qk_trm q21 kq23 (by decide)
              refine rr_cV0 pf_81_137 po_81 pc_3_57 (ws_200 hW) po_59 (by decide) rfl hcM22 ?_
              refine rr_iconst pf_81_140 ?_
              refine rr_zret pf_81_141 pt_81 (by first | exact Or.inl rfl | exact Or.inr rfl | omega) ⟨by rw [bI_t (by unfold cOw; first | rw [if_neg hk9, if_pos (by omega)] | rw [if_neg hk9, if_neg (by omega), if_pos hnum])], M22, rfl, q23, (by unfold cOw; rw [if_neg hk9, if_neg (by omega), if_pos hnum, ← hk8]; rw [if_neg (by omega)]; rw [← hval]; exact pSM22)⟩
            · refine rr_bipush pf_81_104 (by decide) ?_
              refine rr_aload_n pf_81_106 rfl ?_
              refine vr_getI q7 pf_81_107 po_81 pg_3_43 rfl (ws_200 hW) (by decide) (fun x24 hx24 rx24 => ?_)
              rw [pSM6.lx.2.2.2.2.2.2.2.2] at hx24
              refine rr_iadd pf_81_110 ?_
              refine rr_goto 126 pf_81_111 (by decide) ?_
              refine rr_istore_n pf_81_126 (fun y => [.ref 200, .int (iI (y4)), .int (iI (y10)), .int (iI (y))]) (Nat.le_of_ble_eq_true rfl) (fun _ => rfl) (fun y25 hy25 => ?_)
              have hval : y25 = 53 + cW E (cnx E s) := by omega
              have hvb : 0 ≤ y25 ∧ y25 ≤ 1000 := by have := hnum.2; rw [← hlim] at this; omega
              refine rr_aload_n pf_81_127 rfl ?_
              refine rr_getR pf_81_128 po_81 pg_3_14 rfl (ws_200 hW) (by decide) (wr_200_0 q7.1) ?_
              refine rr_iconst pf_81_131 ?_
              refine rr_iload_n pf_81_132 rfl ?_
              obtain ⟨M26, ⟨kq27, pSM26⟩, hcM26⟩ := ct_CS_add (xs := xs) (L := L) (d := d) (E := E) (cl := cl) (s := (cnx E s)) (op := 1) (arg := y25) (by omega) hW q7.1 q7.2.1 pSM6 (by unfold rg; omega) (by unfold rg; omega)
              have q27 := qk_trm q7 kq27 (by decide)
              refine rr_cV2 pf_81_133 po_81 pc_3_129 (ws_201 hW) po_80 (by decide) rfl hcM26 ?_
              refine rr_aload_n pf_81_136 rfl ?_
              obtain ⟨M28, ⟨kq29, pSM28⟩, hcM28⟩ := ct_CS_next (xs := xs) (L := L) (d := d) (E := E) (cl := cl) (s := (cad 1 y25 (cnx E s))) (by omega) hW q27.1 q27.2.1 pSM26 
              have q29 := qk_trm q27 kq29 (by decide)
              refine rr_cV0 pf_81_137 po_81 pc_3_57 (ws_200 hW) po_59 (by decide) rfl hcM28 ?_
              refine rr_iconst pf_81_140 ?_
              refine rr_zret pf_81_141 pt_81 (by first | exact Or.inl rfl | exact Or.inr rfl | omega) ⟨by rw [bI_t (by unfold cOw; first | rw [if_neg hk9, if_pos (by omega)] | rw [if_neg hk9, if_neg (by omega), if_pos hnum])], M28, rfl, q29, (by unfold cOw; rw [if_neg hk9, if_neg (by omega), if_pos hnum, ← hk8]; rw [if_pos (by omega)]; rw [← hval]; exact pSM28)⟩
          · have hlim : y10 = (if cOk E s = 8 then 5 else 15 : Int) := by rw [← hk8]; split <;> omega
            have hcc := cnm_c (E := E) (s := cnx E s) (x := y10) (by omega)
            have hnum : ¬ (cK E (cnx E s) = 2 ∧ cW E (cnx E s) ≤ (if cOk E s = 8 then 5 else 15)) := by
              rw [← hlim]; intro z; have z2 := hcc.mpr z; have z3 : tkK E.tn E.tb (cnx E s).i = 2 := z2.1; omega
            refine rr_aload_n pf_81_93 rfl ?_
            obtain ⟨M30, ⟨kq31, pSM30⟩, hcM30⟩ := ct_CS_fail (xs := xs) (L := L) (d := d) (E := E) (cl := cl) (s := (cnx E s)) (by omega) hW q7.1 q7.2.1 pSM6 
            have q31 := qk_trm q7 kq31 (by decide)
            refine rr_cV0 pf_81_94 po_81 pc_3_71 (ws_200 hW) po_70 (by decide) rfl hcM30 ?_
            refine rr_zret pf_81_97 pt_81 (by have := bI_rg (False); omega) ⟨by congr 3; exact bI_c (by constructor <;> intro z <;> first | exact absurd z id | (unfold cOw at z; first | (rw [if_pos hk9] at z; cases z) | (rw [if_neg hk9, if_neg (by omega), if_neg hnum] at z; cases z))), M30, rfl, q31, (by unfold cOw; rw [if_neg hk9, if_neg (by omega), if_neg hnum]; exact pSM30)⟩
      · refine rr_iconst pf_81_70 ?_
        refine rr_goto 76 pf_81_71 (by decide) ?_
        refine rr_istore_n pf_81_76 (fun y => [.ref 200, .int (iI (y4)), .int (iI (y)), px_jk]) (Nat.le_of_ble_eq_true rfl) (fun _ => rfl) (fun y32 hy32 => ?_)
        refine rr_aload_n pf_81_77 rfl ?_
        refine vr_getI q7 pf_81_78 po_81 pg_3_34 rfl (ws_200 hW) (by decide) (fun x33 hx33 rx33 => ?_)
        rw [pSM6.lx.2.2.2.2.2.2.2.1] at hx33
        refine rr_iconst pf_81_81 ?_
        refine rr_icmp_ne 93 pf_81_82 (by decide) rx33 (by unfold rg; omega) (fun c34 => ?_) (fun c34 => ?_)
        · have hlim : y32 = (if cOk E s = 8 then 5 else 15 : Int) := by rw [← hk8]; split <;> omega
          have hcc := cnm_c (E := E) (s := cnx E s) (x := y32) (by omega)
          have hnum : ¬ (cK E (cnx E s) = 2 ∧ cW E (cnx E s) ≤ (if cOk E s = 8 then 5 else 15)) := by
            rw [← hlim]; intro z; have z2 := hcc.mpr z; have z3 : tkK E.tn E.tb (cnx E s).i = 2 := z2.1; omega
          refine rr_aload_n pf_81_93 rfl ?_
          obtain ⟨M35, ⟨kq36, pSM35⟩, hcM35⟩ := ct_CS_fail (xs := xs) (L := L) (d := d) (E := E) (cl := cl) (s := (cnx E s)) (by omega) hW q7.1 q7.2.1 pSM6 
          have q36 := qk_trm q7 kq36 (by decide)
          refine rr_cV0 pf_81_94 po_81 pc_3_71 (ws_200 hW) po_70 (by decide) rfl hcM35 ?_
          refine rr_zret pf_81_97 pt_81 (by have := bI_rg (False); omega) ⟨by congr 3; exact bI_c (by constructor <;> intro z <;> first | exact absurd z id | (unfold cOw at z; first | (rw [if_pos hk9] at z; cases z) | (rw [if_neg hk9, if_neg (by omega), if_neg hnum] at z; cases z))), M35, rfl, q36, (by unfold cOw; rw [if_neg hk9, if_neg (by omega), if_neg hnum]; exact pSM35)⟩
        · refine rr_aload_n pf_81_85 rfl ?_
          refine vr_getI q7 pf_81_86 po_81 pg_3_43 rfl (ws_200 hW) (by decide) (fun x37 hx37 rx37 => ?_)
          rw [pSM6.lx.2.2.2.2.2.2.2.2] at hx37
          refine rr_iload_n pf_81_89 rfl ?_
          refine rr_icmp_le 98 pf_81_90 (by decide) rx37 (by unfold rg; omega) (fun c38 => ?_) (fun c38 => ?_)
          · have hlim : y32 = (if cOk E s = 8 then 5 else 15 : Int) := by rw [← hk8]; split <;> omega
            have hcc := cnm_c (E := E) (s := cnx E s) (x := y32) (by omega)
            have hnum : cK E (cnx E s) = 2 ∧ cW E (cnx E s) ≤ (if cOk E s = 8 then 5 else 15) := by
              rw [← hlim]; refine hcc.mp ⟨?_, by omega⟩
              show tkK E.tn E.tb (cnx E s).i = 2; omega
            have hcv := cnm_v (E := E) (s := cnx E s) ⟨hnum.1, by have := hnum.2; rw [← hlim] at this; omega⟩
            refine rr_iload_n pf_81_98 rfl ?_
            refine rr_bipush pf_81_99 (by decide) ?_
            refine rr_icmp_ne 114 pf_81_101 (by decide) (by unfold rg; omega) (by unfold rg; omega) (fun c39 => ?_) (fun c39 => ?_)
            · refine rr_iconst pf_81_114 ?_
              refine rr_aload_n pf_81_115 rfl ?_
              refine vr_getI q7 pf_81_116 po_81 pg_3_43 rfl (ws_200 hW) (by decide) (fun x40 hx40 rx40 => ?_)
              rw [pSM6.lx.2.2.2.2.2.2.2.2] at hx40
              refine rr_iconst pf_81_119 ?_
              refine rr_imul pf_81_120 ?_
              refine rr_iadd pf_81_121 ?_
              refine rr_iload_n pf_81_122 rfl ?_
              refine rr_iadd pf_81_123 ?_
              refine rr_iconst pf_81_124 ?_
              refine rr_isub pf_81_125 ?_
              refine rr_istore_n pf_81_126 (fun y => [.ref 200, .int (iI (y4)), .int (iI (y32)), .int (iI (y))]) (Nat.le_of_ble_eq_true rfl) (fun _ => rfl) (fun y41 hy41 => ?_)
              have hval : y41 = 5 + 3 * cW E (cnx E s) + (y4 - 5) := by omega
              have hvb : 0 ≤ y41 ∧ y41 ≤ 1000 := by have := hnum.2; rw [← hlim] at this; omega
              refine rr_aload_n pf_81_127 rfl ?_
              refine rr_getR pf_81_128 po_81 pg_3_14 rfl (ws_200 hW) (by decide) (wr_200_0 q7.1) ?_
              refine rr_iconst pf_81_131 ?_
              refine rr_iload_n pf_81_132 rfl ?_
              obtain ⟨M42, ⟨kq43, pSM42⟩, hcM42⟩ := ct_CS_add (xs := xs) (L := L) (d := d) (E := E) (cl := cl) (s := (cnx E s)) (op := 1) (arg := y41) (by omega) hW q7.1 q7.2.1 pSM6 (by unfold rg; omega) (by unfold rg; omega)
              have q43 := qk_trm q7 kq43 (by decide)
              refine rr_cV2 pf_81_133 po_81 pc_3_129 (ws_201 hW) po_80 (by decide) rfl hcM42 ?_
              refine rr_aload_n pf_81_136 rfl ?_
              obtain ⟨M44, ⟨kq45, pSM44⟩, hcM44⟩ := ct_CS_next (xs := xs) (L := L) (d := d) (E := E) (cl := cl) (s := (cad 1 y41 (cnx E s))) (by omega) hW q43.1 q43.2.1 pSM42 
              have q45 := qk_trm q43 kq45 (by decide)
              refine rr_cV0 pf_81_137 po_81 pc_3_57 (ws_200 hW) po_59 (by decide) rfl hcM44 ?_
              refine rr_iconst pf_81_140 ?_
              refine rr_zret pf_81_141 pt_81 (by first | exact Or.inl rfl | exact Or.inr rfl | omega) ⟨by rw [bI_t (by unfold cOw; first | rw [if_neg hk9, if_pos (by omega)] | rw [if_neg hk9, if_neg (by omega), if_pos hnum])], M44, rfl, q45, (by unfold cOw; rw [if_neg hk9, if_neg (by omega), if_pos hnum, ← hk8]; rw [if_neg (by omega)]; rw [← hval]; exact pSM44)⟩
            · refine rr_bipush pf_81_104 (by decide) ?_
              refine rr_aload_n pf_81_106 rfl ?_
              refine vr_getI q7 pf_81_107 po_81 pg_3_43 rfl (ws_200 hW) (by decide) (fun x46 hx46 rx46 => ?_)
              rw [pSM6.lx.2.2.2.2.2.2.2.2] at hx46
              refine rr_iadd pf_81_110 ?_
              refine rr_goto 126 pf_81_111 (by decide) ?_
              refine rr_istore_n pf_81_126 (fun y => [.ref 200, .int (iI (y4)), .int (iI (y32)), .int (iI (y))]) (Nat.le_of_ble_eq_true rfl) (fun _ => rfl) (fun y47 hy47 => ?_)
              have hval : y47 = 53 + cW E (cnx E s) := by omega
              have hvb : 0 ≤ y47 ∧ y47 ≤ 1000 := by have := hnum.2; rw [← hlim] at this; omega
              refine rr_aload_n pf_81_127 rfl ?_
              refine rr_getR pf_81_128 po_81 pg_3_14 rfl (ws_200 hW) (by decide) (wr_200_0 q7.1) ?_
              refine rr_iconst pf_81_131 ?_
              refine rr_iload_n pf_81_132 rfl ?_
              obtain ⟨M48, ⟨kq49, pSM48⟩, hcM48⟩ := ct_CS_add (xs := xs) (L := L) (d := d) (E := E) (cl := cl) (s := (cnx E s)) (op := 1) (arg := y47) (by omega) hW q7.1 q7.2.1 pSM6 (by unfold rg; omega) (by unfold rg; omega)
              have q49 := qk_trm q7 kq49 (by decide)
              refine rr_cV2 pf_81_133 po_81 pc_3_129 (ws_201 hW) po_80 (by decide) rfl hcM48 ?_
              refine rr_aload_n pf_81_136 rfl ?_
              obtain ⟨M50, ⟨kq51, pSM50⟩, hcM50⟩ := ct_CS_next (xs := xs) (L := L) (d := d) (E := E) (cl := cl) (s := (cad 1 y47 (cnx E s))) (by omega) hW q49.1 q49.2.1 pSM48 
              have q51 := qk_trm q49 kq51 (by decide)
              refine rr_cV0 pf_81_137 po_81 pc_3_57 (ws_200 hW) po_59 (by decide) rfl hcM50 ?_
              refine rr_iconst pf_81_140 ?_
              refine rr_zret pf_81_141 pt_81 (by first | exact Or.inl rfl | exact Or.inr rfl | omega) ⟨by rw [bI_t (by unfold cOw; first | rw [if_neg hk9, if_pos (by omega)] | rw [if_neg hk9, if_neg (by omega), if_pos hnum])], M50, rfl, q51, (by unfold cOw; rw [if_neg hk9, if_neg (by omega), if_pos hnum, ← hk8]; rw [if_pos (by omega)]; rw [← hval]; exact pSM50)⟩
          · have hlim : y32 = (if cOk E s = 8 then 5 else 15 : Int) := by rw [← hk8]; split <;> omega
            have hcc := cnm_c (E := E) (s := cnx E s) (x := y32) (by omega)
            have hnum : ¬ (cK E (cnx E s) = 2 ∧ cW E (cnx E s) ≤ (if cOk E s = 8 then 5 else 15)) := by
              rw [← hlim]; intro z; have z2 := hcc.mpr z; have z3 : tkK E.tn E.tb (cnx E s).i = 2 := z2.1; omega
            refine rr_aload_n pf_81_93 rfl ?_
            obtain ⟨M52, ⟨kq53, pSM52⟩, hcM52⟩ := ct_CS_fail (xs := xs) (L := L) (d := d) (E := E) (cl := cl) (s := (cnx E s)) (by omega) hW q7.1 q7.2.1 pSM6 
            have q53 := qk_trm q7 kq53 (by decide)
            refine rr_cV0 pf_81_94 po_81 pc_3_71 (ws_200 hW) po_70 (by decide) rfl hcM52 ?_
            refine rr_zret pf_81_97 pt_81 (by have := bI_rg (False); omega) ⟨by congr 3; exact bI_c (by constructor <;> intro z <;> first | exact absurd z id | (unfold cOw at z; first | (rw [if_pos hk9] at z; cases z) | (rw [if_neg hk9, if_neg (by omega), if_neg hnum] at z; cases z))), M52, rfl, q53, (by unfold cOw; rw [if_neg hk9, if_neg (by omega), if_neg hnum]; exact pSM52)⟩
    · refine rr_aload_n pf_81_26 rfl ?_
      refine rr_getR pf_81_27 po_81 pg_3_14 rfl (ws_200 hW) (by decide) (wr_200_0 q7.1) ?_
      refine rr_aload_n pf_81_30 rfl ?_
      refine rr_getR pf_81_31 po_81 pg_3_14 rfl (ws_200 hW) (by decide) (wr_200_0 q7.1) ?_
      refine vr_getZ q7 pf_81_34 po_81 pg_3_174 rfl (ws_201 hW) (by decide) (fun x54 hx54 rx54 => ?_)
      have hab01 := pSM6.ab01
      rw [← pSM6.b, ← hx54] at hab01
      refine rr_if_ne 45 pf_81_37 (by decide) rx54 (fun c55 => ?_) (fun c55 => ?_)
      · refine rr_iconst pf_81_45 ?_
        refine rr_goto 50 pf_81_46 (by decide) ?_
        refine vr_putZ hW q7 pf_81_50 po_81 pg_3_174 (Or.inl rfl) rfl (ws_201 hW) (by decide) (by omega) (by decide) (fun M56 eM56 q57 => ?_)
        have pS58 : CS M56 E cl (cbk y4 (cnx E s)) := CS_bk pSM6 eM56 (by rw [← pSM6.b, ← hx54] ; split <;> omega)
        refine rr_aload_n pf_81_53 rfl ?_
        refine rr_getR pf_81_54 po_81 pg_3_14 rfl (ws_200 hW) (by decide) (wr_200_0 q57.1) ?_
        refine rr_iconst pf_81_57 ?_
        refine rr_iload_n pf_81_58 rfl ?_
        obtain ⟨M59, ⟨kq60, pSM59⟩, hcM59⟩ := ct_CS_add (xs := xs) (L := L) (d := d) (E := E) (cl := cl) (s := (cbk y4 (cnx E s))) (op := 1) (arg := y4) (by omega) hW q57.1 q57.2.1 pS58 (by unfold rg; omega) (by unfold rg; omega)
        have q60 := qk_trm q57 kq60 (by decide)
        refine rr_cV2 pf_81_59 po_81 pc_3_129 (ws_201 hW) po_80 (by decide) rfl hcM59 ?_
        refine rr_iconst pf_81_62 ?_
        refine rr_zret pf_81_63 pt_81 (by first | exact Or.inl rfl | exact Or.inr rfl | omega) ⟨by rw [bI_t (by unfold cOw; first | rw [if_neg hk9, if_pos (by omega)] | rw [if_neg hk9, if_neg (by omega), if_pos hnum])], M59, rfl, q60, (by unfold cOw; rw [if_neg hk9, if_pos (by omega), ← hk8]; exact pSM59)⟩
      · refine rr_iload_n pf_81_40 rfl ?_
        refine rr_iconst pf_81_41 ?_
        refine rr_icmp_ne 49 pf_81_42 (by decide) (by unfold rg; omega) (by unfold rg; omega) (fun c61 => ?_) (fun c61 => ?_)
        · refine rr_iconst pf_81_49 ?_
          refine vr_putZ hW q7 pf_81_50 po_81 pg_3_174 (Or.inl rfl) rfl (ws_201 hW) (by decide) (by omega) (by decide) (fun M62 eM62 q63 => ?_)
          have pS64 : CS M62 E cl (cbk y4 (cnx E s)) := CS_bk pSM6 eM62 (by rw [← pSM6.b, ← hx54] ; split <;> omega)
          refine rr_aload_n pf_81_53 rfl ?_
          refine rr_getR pf_81_54 po_81 pg_3_14 rfl (ws_200 hW) (by decide) (wr_200_0 q63.1) ?_
          refine rr_iconst pf_81_57 ?_
          refine rr_iload_n pf_81_58 rfl ?_
          obtain ⟨M65, ⟨kq66, pSM65⟩, hcM65⟩ := ct_CS_add (xs := xs) (L := L) (d := d) (E := E) (cl := cl) (s := (cbk y4 (cnx E s))) (op := 1) (arg := y4) (by omega) hW q63.1 q63.2.1 pS64 (by unfold rg; omega) (by unfold rg; omega)
          have q66 := qk_trm q63 kq66 (by decide)
          refine rr_cV2 pf_81_59 po_81 pc_3_129 (ws_201 hW) po_80 (by decide) rfl hcM65 ?_
          refine rr_iconst pf_81_62 ?_
          refine rr_zret pf_81_63 pt_81 (by first | exact Or.inl rfl | exact Or.inr rfl | omega) ⟨by rw [bI_t (by unfold cOw; first | rw [if_neg hk9, if_pos (by omega)] | rw [if_neg hk9, if_neg (by omega), if_pos hnum])], M65, rfl, q66, (by unfold cOw; rw [if_neg hk9, if_pos (by omega), ← hk8]; exact pSM65)⟩
        · refine rr_iconst pf_81_45 ?_
          refine rr_goto 50 pf_81_46 (by decide) ?_
          refine vr_putZ hW q7 pf_81_50 po_81 pg_3_174 (Or.inl rfl) rfl (ws_201 hW) (by decide) (by omega) (by decide) (fun M67 eM67 q68 => ?_)
          have pS69 : CS M67 E cl (cbk y4 (cnx E s)) := CS_bk pSM6 eM67 (by rw [← pSM6.b, ← hx54] ; split <;> omega)
          refine rr_aload_n pf_81_53 rfl ?_
          refine rr_getR pf_81_54 po_81 pg_3_14 rfl (ws_200 hW) (by decide) (wr_200_0 q68.1) ?_
          refine rr_iconst pf_81_57 ?_
          refine rr_iload_n pf_81_58 rfl ?_
          obtain ⟨M70, ⟨kq71, pSM70⟩, hcM70⟩ := ct_CS_add (xs := xs) (L := L) (d := d) (E := E) (cl := cl) (s := (cbk y4 (cnx E s))) (op := 1) (arg := y4) (by omega) hW q68.1 q68.2.1 pS69 (by unfold rg; omega) (by unfold rg; omega)
          have q71 := qk_trm q68 kq71 (by decide)
          refine rr_cV2 pf_81_59 po_81 pc_3_129 (ws_201 hW) po_80 (by decide) rfl hcM70 ?_
          refine rr_iconst pf_81_62 ?_
          refine rr_zret pf_81_63 pt_81 (by first | exact Or.inl rfl | exact Or.inr rfl | omega) ⟨by rw [bI_t (by unfold cOw; first | rw [if_neg hk9, if_pos (by omega)] | rw [if_neg hk9, if_neg (by omega), if_pos hnum])], M70, rfl, q71, (by unfold cOw; rw [if_neg hk9, if_pos (by omega), ← hk8]; exact pSM70)⟩
  · have hk9 : cOk E s = -1 := by omega
    refine rr_aload_n pf_81_12 rfl ?_
    obtain ⟨M72, ⟨kq73, pSM72⟩, hcM72⟩ := ct_CS_fail (xs := xs) (L := L) (d := d) (E := E) (cl := cl) (s := s) (by omega) hW q0.1 q0.2.1 hs 
    have q73 := qk_trm q0 kq73 (by decide)
    refine rr_cV0 pf_81_13 po_81 pc_3_71 (ws_200 hW) po_70 (by decide) rfl hcM72 ?_
    refine rr_zret pf_81_16 pt_81 (by have := bI_rg (False); omega) ⟨by congr 3; exact bI_c (by constructor <;> intro z <;> first | exact absurd z id | (unfold cOw at z; first | (rw [if_pos hk9] at z; cases z) | (rw [if_neg hk9, if_neg (by omega), if_neg hnum] at z; cases z))), M72, rfl, q73, (by unfold cOw; rw [if_pos hk9]; exact pSM72)⟩

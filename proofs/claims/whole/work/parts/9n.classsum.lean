/-! the class's reader: parts, terms, sums -/
def rdC (xs : Nat → Int) (L : Nat) (sh : List (Nat × Nat)) (E : rdE) (cl k dep : Nat) (f : cS → Bool × cS) (dd : Nat) : Prop := ∀ (d : Nat) (M0 : Nat → Nat → Int) (s : cS), dd ≤ d → px_Fx M0 → px_RG sh M0 → CS M0 E cl s → ∃ M, (px_qk sh [200, 201, 202, 203] M0 M ∧ CS M E cl (f s).2) ∧ px_Cl xs L d k [.ref 200, .int (iI ((dep : Nat) : Int))] (sh, M0) (some (.int (iI (bI ((f s).1 = true))))) (sh, M)
theorem ct_CS_part {xs : Nat → Int} {L d : Nat} {sh : List (Nat × Nat)} {M0 : Nat → Nat → Int} (hd : 8 ≤ d) (hW : px_W0 <+: sh) (hF : px_Fx M0) (hG : px_RG sh M0)  {E : rdE} {cl : Nat} {s : cS} (hs : CS M0 E cl s) {nest : Option (cS → Bool × cS)} {dep dd : Nat} (hdep : dep ≤ 8) (hnn : nest = none ↔ 8 ≤ dep) (IH : ∀ f, nest = some f → rdC xs L sh E cl 74 (dep + 1) f dd) (hdd : dd + 1 ≤ d) : ∃ M, (px_qk sh [200, 201, 202, 203] M0 M ∧ (CS M E cl (cPrt E nest s).2)) ∧ px_Cl xs L d 76 [.ref 200, .int (iI (((dep : Nat) : Int)))] (sh, M0) (some (.int (iI (bI ((cPrt E nest s).1 = true))))) (sh, M) := by
  obtain ⟨d, rfl⟩ : ∃ e, d = e + 1 := ⟨d - 1, by omega⟩
  have q0 : px_qk sh [200, 201, 202, 203] M0 M0 := ⟨hF, hG, eo_rf⟩
  refine vc_n (Nat.le_of_ble_eq_true rfl) ?_
  show px_R xs L d 76 (0, [.ref 200, .int (iI (((dep : Nat) : Int)))], [], (sh, M0)) (fun r h' => r = some (.int (iI (bI ((cPrt E nest s).1 = true)))) ∧ ∃ M', h' = (sh, M') ∧ px_qk sh [200, 201, 202, 203] M0 M' ∧ CS M' E cl (cPrt E nest s).2)
  refine rr_aload_n pf_76_0 rfl ?_
  refine rr_bipush pf_76_1 (by decide) ?_
  obtain ⟨M1, ⟨kq2, pSM1⟩, hcM1⟩ := ct_CS_isSign (xs := xs) (L := L) (d := d) (E := E) (cl := cl) (s := s) (c := 91) (by omega) hW q0.1 q0.2.1 hs (by omega)
  obtain rfl := qk_nil kq2
  refine rr_cV1 pf_76_3 po_76 pc_3_64 (ws_200 hW) po_77 (by decide) rfl hcM1 ?_
  refine rr_ifb_eq 42 pf_76_6 (by decide) (fun c3 => ?_) (fun c3 => ?_)
  · have hcs := c3
    refine rr_aload_n pf_76_42 rfl ?_
    refine vr_getI q0 pf_76_43 po_76 pg_3_31 rfl (ws_200 hW) (by decide) (fun x4 hx4 rx4 => ?_)
    rw [hs.p] at hx4
    refine rr_bipush pf_76_46 (by decide) ?_
    refine rr_icmp_lt 56 pf_76_48 (by decide) rx4 (by unfold rg; omega) (fun c5 => ?_) (fun c5 => ?_)
    · refine rr_aload_n pf_76_56 rfl ?_
      refine rr_dup pf_76_57 rfl ?_
      refine vr_getI q0 pf_76_58 po_76 pg_3_31 rfl (ws_200 hW) (by decide) (fun x6 hx6 rx6 => ?_)
      rw [hs.p] at hx6
      refine rr_iconst pf_76_61 ?_
      refine rr_iadd pf_76_62 ?_
      refine vr_putI hW q0 pf_76_63 po_76 pg_3_31 (Or.inl rfl) rfl (ws_200 hW) (by decide) (by unfold rg; omega) (by decide) (fun M7 eM7 q8 => ?_)
      have pS9 : CS M7 E cl (cpi s) := CS_pi pSM1 (eM7.trans (by rw [hx6])) (by omega)
      refine rr_aload_n pf_76_66 rfl ?_
      refine vr_getI q8 pf_76_67 po_76 pg_3_34 rfl (ws_200 hW) (by decide) (fun x10 hx10 rx10 => ?_)
      rw [pS9.lx.2.2.2.2.2.2.2.1] at hx10
      change x10 = ((tkK E.tn E.tb s.i : Nat) : Int) at hx10
      refine rr_iconst pf_76_70 ?_
      refine rr_icmp_ne 102 pf_76_71 (by decide) rx10 (by unfold rg; omega) (fun c11 => ?_) (fun c11 => ?_)
      · have hcc := cnm_c (E := E) (s := s) (x := 1000) (by omega)
        have hnum : ¬ (cK E s = 2 ∧ cW E s ≤ 1000) := by
          intro z; have z2 := hcc.mpr z; have z3 : tkK E.tn E.tb s.i = 2 := z2.1; omega
        refine rr_aload_n pf_76_102 rfl ?_
        refine vr_getZ q8 pf_76_103 po_76 pg_3_27 rfl (ws_200 hW) (by decide) (fun x12 hx12 rx12 => ?_)
        rw [pS9.2.1] at hx12
        have hod := hs.2.2.1
        refine rr_if_eq 116 pf_76_106 (by decide) rx12 (fun c13 => ?_) (fun c13 => ?_)
        · have hP : cPrt E nest s = cLw E (cpi s) := by
            unfold cPrt
            rw [if_neg hcs]; unfold cLf; rw [if_neg (by omega), if_neg hnum, if_neg (by omega)]
          refine rr_aload_n pf_76_116 rfl ?_
          obtain ⟨M14, ⟨kq15, pSM14⟩, hcM14⟩ := ct_CS_lawWord (xs := xs) (L := L) (d := d) (E := E) (cl := cl) (s := (cpi s)) (by omega) hW q8.1 q8.2.1 pS9 
          have q15 := qk_trm q8 kq15 (by decide)
          refine rr_cV0 pf_76_117 po_76 pc_3_167 (ws_200 hW) po_82 (by decide) rfl hcM14 ?_
          refine rr_zret pf_76_120 pt_76 (by have := bI_rg ((cLw E (cpi s)).1 = true); omega) ⟨by congr 3; exact bI_c (by first | (rw [hP]; done) | (rw [hP]; exact ⟨False.elim, fun z => by cases z⟩)), M14, rfl, q15, (by rw [hP]; exact pSM14)⟩
        · have hP : cPrt E nest s = cOw E (cpi s) := by
            unfold cPrt
            rw [if_neg hcs]; unfold cLf; rw [if_neg (by omega), if_neg hnum, if_pos (by omega)]
          refine rr_aload_n pf_76_109 rfl ?_
          obtain ⟨M16, ⟨kq17, pSM16⟩, hcM16⟩ := ct_CS_orderWord (xs := xs) (L := L) (d := d) (E := E) (cl := cl) (s := (cpi s)) (by omega) hW q8.1 q8.2.1 pS9 
          have q17 := qk_trm q8 kq17 (by decide)
          refine rr_cV0 pf_76_110 po_76 pc_3_164 (ws_200 hW) po_81 (by decide) rfl hcM16 ?_
          refine rr_goto 120 pf_76_113 (by decide) ?_
          refine rr_zret pf_76_120 pt_76 (by have := bI_rg ((cOw E (cpi s)).1 = true); omega) ⟨by congr 3; exact bI_c (by first | (rw [hP]; done) | (rw [hP]; exact ⟨False.elim, fun z => by cases z⟩)), M16, rfl, q17, (by rw [hP]; exact pSM16)⟩
      · refine rr_aload_n pf_76_74 rfl ?_
        refine vr_getI q8 pf_76_75 po_76 pg_3_43 rfl (ws_200 hW) (by decide) (fun x18 hx18 rx18 => ?_)
        rw [pS9.lx.2.2.2.2.2.2.2.2] at hx18
        change x18 = cnm E.tn E.tb s.i at hx18
        refine rr_sipush pf_76_78 (by decide) ?_
        refine rr_icmp_gt 102 pf_76_81 (by decide) rx18 (by unfold rg; omega) (fun c19 => ?_) (fun c19 => ?_)
        · have hcc := cnm_c (E := E) (s := s) (x := 1000) (by omega)
          have hnum : ¬ (cK E s = 2 ∧ cW E s ≤ 1000) := by
            intro z; have z2 := hcc.mpr z; have z3 : tkK E.tn E.tb s.i = 2 := z2.1; omega
          refine rr_aload_n pf_76_102 rfl ?_
          refine vr_getZ q8 pf_76_103 po_76 pg_3_27 rfl (ws_200 hW) (by decide) (fun x20 hx20 rx20 => ?_)
          rw [pS9.2.1] at hx20
          have hod := hs.2.2.1
          refine rr_if_eq 116 pf_76_106 (by decide) rx20 (fun c21 => ?_) (fun c21 => ?_)
          · have hP : cPrt E nest s = cLw E (cpi s) := by
              unfold cPrt
              rw [if_neg hcs]; unfold cLf; rw [if_neg (by omega), if_neg hnum, if_neg (by omega)]
            refine rr_aload_n pf_76_116 rfl ?_
            obtain ⟨M22, ⟨kq23, pSM22⟩, hcM22⟩ := ct_CS_lawWord (xs := xs) (L := L) (d := d) (E := E) (cl := cl) (s := (cpi s)) (by omega) hW q8.1 q8.2.1 pS9 
            have q23 := qk_trm q8 kq23 (by decide)
            refine rr_cV0 pf_76_117 po_76 pc_3_167 (ws_200 hW) po_82 (by decide) rfl hcM22 ?_
            refine rr_zret pf_76_120 pt_76 (by have := bI_rg ((cLw E (cpi s)).1 = true); omega) ⟨by congr 3; exact bI_c (by first | (rw [hP]; done) | (rw [hP]; exact ⟨False.elim, fun z => by cases z⟩)), M22, rfl, q23, (by rw [hP]; exact pSM22)⟩
          · have hP : cPrt E nest s = cOw E (cpi s) := by
              unfold cPrt
              rw [if_neg hcs]; unfold cLf; rw [if_neg (by omega), if_neg hnum, if_pos (by omega)]
            refine rr_aload_n pf_76_109 rfl ?_
            obtain ⟨M24, ⟨kq25, pSM24⟩, hcM24⟩ := ct_CS_orderWord (xs := xs) (L := L) (d := d) (E := E) (cl := cl) (s := (cpi s)) (by omega) hW q8.1 q8.2.1 pS9 
            have q25 := qk_trm q8 kq25 (by decide)
            refine rr_cV0 pf_76_110 po_76 pc_3_164 (ws_200 hW) po_81 (by decide) rfl hcM24 ?_
            refine rr_goto 120 pf_76_113 (by decide) ?_
            refine rr_zret pf_76_120 pt_76 (by have := bI_rg ((cOw E (cpi s)).1 = true); omega) ⟨by congr 3; exact bI_c (by first | (rw [hP]; done) | (rw [hP]; exact ⟨False.elim, fun z => by cases z⟩)), M24, rfl, q25, (by rw [hP]; exact pSM24)⟩
        · have hcc := cnm_c (E := E) (s := s) (x := 1000) (by omega)
          have hnum : cK E s = 2 ∧ cW E s ≤ 1000 := hcc.mp ⟨by show tkK E.tn E.tb s.i = 2; omega, by omega⟩
          have hcv := cnm_v hnum
          refine rr_aload_n pf_76_84 rfl ?_
          refine rr_getR pf_76_85 po_76 pg_3_14 rfl (ws_200 hW) (by decide) (wr_200_0 q8.1) ?_
          refine rr_iconst pf_76_88 ?_
          refine rr_aload_n pf_76_89 rfl ?_
          refine vr_getI q8 pf_76_90 po_76 pg_3_43 rfl (ws_200 hW) (by decide) (fun x26 hx26 rx26 => ?_)
          rw [pS9.lx.2.2.2.2.2.2.2.2] at hx26
          change x26 = cnm E.tn E.tb s.i at hx26
          have hxe : x26 = cW E s := by omega
          obtain ⟨M27, ⟨kq28, pSM27⟩, hcM27⟩ := ct_CS_add (xs := xs) (L := L) (d := d) (E := E) (cl := cl) (s := (cpi s)) (op := 0) (arg := x26) (by omega) hW q8.1 q8.2.1 pS9 (by unfold rg; omega) (by unfold rg; omega)
          have q28 := qk_trm q8 kq28 (by decide)
          refine rr_cV2 pf_76_93 po_76 pc_3_129 (ws_201 hW) po_80 (by decide) rfl hcM27 ?_
          refine rr_aload_n pf_76_96 rfl ?_
          obtain ⟨M29, ⟨kq30, pSM29⟩, hcM29⟩ := ct_CS_next (xs := xs) (L := L) (d := d) (E := E) (cl := cl) (s := (cad 0 x26 (cpi s))) (by omega) hW q28.1 q28.2.1 pSM27 
          have q30 := qk_trm q28 kq30 (by decide)
          refine rr_cV0 pf_76_97 po_76 pc_3_57 (ws_200 hW) po_59 (by decide) rfl hcM29 ?_
          have hP : cPrt E nest s = (true, cnx E (cad 0 (cW E s) (cpi s))) := by
            unfold cPrt
            rw [if_neg hcs]; unfold cLf; rw [if_neg (by omega), if_pos hnum]
          have hs9 := pSM29
          rw [hxe] at hs9
          refine rr_iconst pf_76_100 ?_
          refine rr_zret pf_76_101 pt_76 (by first | exact Or.inl rfl | exact Or.inr rfl | omega) ⟨by rw [bI_t (by rw [hP])], M29, rfl, q30, (by rw [hP]; exact hs9)⟩
    · have hP : cPrt E nest s = (false, cfl E s) := by
        unfold cPrt
        rw [if_neg hcs]; unfold cLf; rw [if_pos (by omega)]
      refine rr_aload_n pf_76_51 rfl ?_
      obtain ⟨M31, ⟨kq32, pSM31⟩, hcM31⟩ := ct_CS_fail (xs := xs) (L := L) (d := d) (E := E) (cl := cl) (s := (s)) (by omega) hW q0.1 q0.2.1 pSM1 
      have q32 := qk_trm q0 kq32 (by decide)
      refine rr_cV0 pf_76_52 po_76 pc_3_71 (ws_200 hW) po_70 (by decide) rfl hcM31 ?_
      refine rr_zret pf_76_55 pt_76 (by have := bI_rg (False); omega) ⟨by congr 3; exact bI_c (by first | (rw [hP]; done) | (rw [hP]; exact ⟨False.elim, fun z => by cases z⟩)), M31, rfl, q32, (by rw [hP]; exact pSM31)⟩
  · have hcs := c3
    refine rr_aload_n pf_76_9 rfl ?_
    refine rr_iload_n pf_76_10 rfl ?_
    obtain ⟨M33, ⟨kq34, pSM33⟩, hcM33⟩ := ct_CS_opened (xs := xs) (L := L) (d := d) (E := E) (cl := cl) (s := (s)) (dp := dep) (by omega) hW q0.1 q0.2.1 pSM1 (by omega)
    have q34 := qk_trm q0 kq34 (by decide)
    refine rr_cV1 pf_76_11 po_76 pc_3_142 (ws_200 hW) po_78 (by decide) rfl hcM33 ?_
    refine rr_ifb_eq 40 pf_76_14 (by decide) (fun c35 => ?_) (fun c35 => ?_)
    · have pS36 := pSM33
      rw [if_neg c35] at pS36
      have hP : cPrt E nest s = (false, cfl E s) := by
        unfold cPrt
        rw [if_pos hcs, hnn.mpr (by omega)]
      refine rr_iconst pf_76_40 ?_
      refine rr_zret pf_76_41 pt_76 (by first | exact Or.inl rfl | exact Or.inr rfl | omega) ⟨by rw [bI_f (by rw [hP]; intro z; cases z)], M33, rfl, q34, (by rw [hP]; exact pS36)⟩
    · have pS37 := pSM33
      rw [if_pos c35] at pS37
      obtain ⟨f, hf⟩ : ∃ f, nest = some f := by
        cases hne : nest with
        | none => have := hnn.mp hne; omega
        | some f => exact ⟨f, rfl⟩
      have IHf := IH f hf
      refine rr_aload_n pf_76_17 rfl ?_
      refine rr_iload_n pf_76_18 rfl ?_
      refine rr_iconst pf_76_19 ?_
      refine rr_iadd pf_76_20 ?_
      obtain ⟨M38, ⟨kq39, pSM38⟩, hcM38⟩ := IHf d M33 (cnx E s) (by omega) q34.1 q34.2.1 pS37
      rw [show ((dep + 1 : Nat) : Int) = ((dep : Nat) : Int) + 1 by omega] at hcM38
      have q39 := qk_trm q34 kq39 (by decide)
      refine rr_cV1 pf_76_21 po_76 pc_3_121 (ws_200 hW) po_74 (by decide) rfl hcM38 ?_
      refine rr_ifb_eq 40 pf_76_24 (by decide) (fun c40 => ?_) (fun c40 => ?_)
      · have hr1 := c40
        have hP : cPrt E nest s = (false, (f (cnx E s)).2) := by
          unfold cPrt
          rw [if_pos hcs, hf]
          show (if (f (cnx E s)).1 = true then _ else _) = _
          rw [if_neg hr1]
        refine rr_iconst pf_76_40 ?_
        refine rr_zret pf_76_41 pt_76 (by first | exact Or.inl rfl | exact Or.inr rfl | omega) ⟨by rw [bI_f (by rw [hP]; intro z; cases z)], M38, rfl, q39, (by rw [hP]; exact pSM38)⟩
      · have hr1 := c40
        refine rr_aload_n pf_76_27 rfl ?_
        refine rr_bipush pf_76_28 (by decide) ?_
        obtain ⟨M41, ⟨kq42, pSM41⟩, hcM41⟩ := ct_CS_closed (xs := xs) (L := L) (d := d) (E := E) (cl := cl) (s := (f (cnx E s)).2) (c := 93) (by omega) hW q39.1 q39.2.1 pSM38 (by omega)
        have q42 := qk_trm q39 kq42 (by decide)
        refine rr_cV1 pf_76_30 po_76 pc_3_145 (ws_200 hW) po_79 (by decide) rfl hcM41 ?_
        refine rr_ifb_eq 40 pf_76_33 (by decide) (fun c43 => ?_) (fun c43 => ?_)
        · have pS44 := pSM41
          rw [if_neg c43] at pS44
          have hcl := c43
          have hP : cPrt E nest s = (false, cfl E (f (cnx E s)).2) := by
            unfold cPrt
            rw [if_pos hcs, hf]
            show (if (f (cnx E s)).1 = true then _ else _) = _
            rw [if_pos hr1, if_neg hcl]
          refine rr_iconst pf_76_40 ?_
          refine rr_zret pf_76_41 pt_76 (by first | exact Or.inl rfl | exact Or.inr rfl | omega) ⟨by rw [bI_f (by rw [hP]; intro z; cases z)], M41, rfl, q42, (by rw [hP]; exact pS44)⟩
        · have pS45 := pSM41
          rw [if_pos c43] at pS45
          have hcl := c43
          have hP : cPrt E nest s = (true, cnx E (f (cnx E s)).2) := by
            unfold cPrt
            rw [if_pos hcs, hf]
            show (if (f (cnx E s)).1 = true then _ else _) = _
            rw [if_pos hr1, if_pos hcl]
          refine rr_iconst pf_76_36 ?_
          refine rr_goto 41 pf_76_37 (by decide) ?_
          refine rr_zret pf_76_41 pt_76 (by first | exact Or.inl rfl | exact Or.inr rfl | omega) ⟨by rw [bI_t (by rw [hP])], M41, rfl, q42, (by rw [hP]; exact pS45)⟩
theorem bI_dj (c : Bool) : (bI (c = true) = 1 ∧ c = true) ∨ (bI (c = true) = 0 ∧ c = false) := by
  cases c
  · exact Or.inr ⟨bI_f (by decide), rfl⟩
  · exact Or.inl ⟨bI_t rfl, rfl⟩
def sgO (E : rdE) (t : Nat) (fo : Int) (s : cS) : Int := sgF t (cK E s) (cW E s) fo (px_txt t).length 0
theorem sgF_b {t K : Nat} {W fo : Int} (hfo : 0 ≤ fo ∧ fo ≤ 20) : ∀ f j, -1 ≤ sgF t K W fo f j ∧ sgF t K W fo f j < 20 + ((f + j : Nat) : Int) := by
  intro f
  induction f with
  | zero => intro j; simp only [sgF]; omega
  | succ f ih => intro j; simp only [sgF]; have := ih (j + 1); split <;> omega
theorem sgF_b2 {t : Nat} (ht : t < 14) {K : Nat} {W fo : Int} (hfo : 0 ≤ fo ∧ fo ≤ 20) : -1 ≤ sgF t K W fo (px_txt t).length 0 ∧ sgF t K W fo (px_txt t).length 0 < 200 := by
  have := sgF_b (t := t) (K := K) (W := W) hfo (px_txt t).length 0
  have := (txt_ok t ht).1
  omega
def bLp (E : rdE) (t : Nat) (fo : Int) (g : cS → Bool × cS) : Nat → Bool × cS → Bool × cS
  | 0, r => r
  | f + 1, r => if r.1 = true ∧ sgO E t fo r.2 ≠ -1 then bLp E t fo g f ((g (cnx E r.2)).1, cad (sgO E t fo r.2) 0 (g (cnx E r.2)).2) else r
theorem bLp_e {E : rdE} {t : Nat} {fo : Int} {g : cS → Bool × cS} {r : Bool × cS} (h : ¬ (r.1 = true ∧ sgO E t fo r.2 ≠ -1)) : ∀ f, bLp E t fo g f r = r := by
  intro f
  cases f with
  | zero => rfl
  | succ f => rw [bLp, if_neg h]
def cTrm (E : rdE) (nest : Option (cS → Bool × cS)) (s : cS) : Bool × cS := bLp E 4 7 (cPrt E nest) 400 (cPrt E nest s)
def cSum (E : rdE) (nest : Option (cS → Bool × cS)) (s : cS) : Bool × cS := bLp E 5 5 (cTrm E nest) 400 (cTrm E nest s)
def cSm (E : rdE) : Nat → cS → Bool × cS
  | 0 => cSum E none
  | D + 1 => cSum E (some (cSm E D))
theorem lp_CS_term_18 {xs : Nat → Int} {L d : Nat} {sh : List (Nat × Nat)} (hd : 7 ≤ d) (hW : px_W0 <+: sh) {M0 : Nat → Nat → Int}  {E : rdE} {cl : Nat} {s : cS} (hs : CS M0 E cl s) {nest : Option (cS → Bool × cS)} {dep dd : Nat} (IHp : rdC xs L sh E cl 76 dep (cPrt E nest) dd) (hdd : dd + 1 ≤ d + 1)  {Q : Option Value → px_H → Prop} (kx : ∀ (r : Bool × cS) (fi : Int) (op : Int) (j : Nat) (M : Nat → Nat → Int), px_qk sh [200, 201, 202, 203] M0 M → (CS M E cl r.2) → (bLp E 4 7 (cPrt E nest) 400 (cPrt E nest s) = r) → ((fi = 1 ∧ r.1 = true) ∨ (fi = 0 ∧ r.1 = false)) → px_R xs L d 75 (69, [.ref 200, .int (iI (((dep : Nat) : Int))), .int (iI (fi)), .int (iI (op)), .int (iI (((j : Nat) : Int)))], [], (sh, M)) Q)  : ∀ (mz : Nat) (r : Bool × cS) (fi : Int) (op : Int) (j : Nat) (M : Nat → Nat → Int), 400 - j = mz → px_qk sh [200, 201, 202, 203] M0 M → (j ≤ 400) → (CS M E cl r.2) → ((fi = 1 ∧ r.1 = true) ∨ (fi = 0 ∧ r.1 = false)) → (op = sgO E 4 7 r.2) → (bLp E 4 7 (cPrt E nest) 400 (cPrt E nest s) = bLp E 4 7 (cPrt E nest) (400 - j) r) → px_R xs L d 75 (18, [.ref 200, .int (iI (((dep : Nat) : Int))), .int (iI (fi)), .int (iI (op)), .int (iI (((j : Nat) : Int)))], [], (sh, M)) Q := by
  intro mz
  induction mz using Nat.strongRecOn with
  | _ mz ih =>
    intro r fi op j M hm hq hj hS hfi hop hE
    have hopb : -1 ≤ op ∧ op < 200 := by rw [hop]; exact sgF_b2 (by decide) (by omega)
    refine rr_iload pf_75_18 rfl ?_
    refine rr_sipush pf_75_20 (by decide) ?_
    refine rr_icmp_ge 69 pf_75_23 (by decide) (by unfold rg; omega) (by unfold rg; omega) (fun c1 => ?_) (fun c1 => ?_)
    · exact kx r fi op j M hq (hS) (by rw [hE, show 400 - j = 0 by omega]; rfl) (hfi)
    · refine rr_iload_n pf_75_26 rfl ?_
      refine rr_if_eq 69 pf_75_27 (by decide) (by unfold rg; omega) (fun c2 => ?_) (fun c2 => ?_)
      · exact kx r fi op j M hq (hS) (by
                      have hr0 : r.1 = false := by
                        rcases hfi with y | y
                        · omega
                        · exact y.2
                      rw [hE]; exact bLp_e (fun z => by rw [hr0] at z; exact absurd z.1 (by decide)) _) (hfi)
      · refine rr_iload_n pf_75_30 rfl ?_
        refine rr_iconst pf_75_31 ?_
        refine rr_icmp_eq 69 pf_75_32 (by decide) (by unfold rg; omega) (by unfold rg; omega) (fun c3 => ?_) (fun c3 => ?_)
        · exact kx r fi op j M hq (hS) (by rw [hE]; exact bLp_e (fun z => by have := z.2; rw [← hop] at this; omega) _) (hfi)
        · have hr1 : r.1 = true := by
            rcases hfi with z | z
            · exact z.2
            · omega
          refine rr_aload_n pf_75_35 rfl ?_
          obtain ⟨M4, ⟨kq5, pSM4⟩, hcM4⟩ := ct_CS_next (xs := xs) (L := L) (d := d) (E := E) (cl := cl) (s := r.2) (by omega) hW hq.1 hq.2.1 hS 
          have q5 := qk_trm hq kq5 (by decide)
          refine rr_cV0 pf_75_36 po_75 pc_3_57 (ws_200 hW) po_59 (by decide) rfl hcM4 ?_
          refine rr_aload_n pf_75_39 rfl ?_
          refine rr_iload_n pf_75_40 rfl ?_
          obtain ⟨M6, ⟨kq7, pSM6⟩, hcM6⟩ := IHp d M4 (cnx E (r.2)) (by omega) q5.1 q5.2.1 pSM4
          have q7 := qk_trm q5 kq7 (by decide)
          refine rr_cV1 pf_75_41 po_75 pc_3_159 (ws_200 hW) po_76 (by decide) rfl hcM6 ?_
          refine rr_istore_n pf_75_44 (fun y => [.ref 200, .int (iI (((dep : Nat) : Int))), .int (iI (y)), .int (iI (op)), .int (iI (((j : Nat) : Int)))]) (Nat.le_of_ble_eq_true rfl) (fun _ => rfl) (fun y8 hy8 => ?_)
          have ry8 := bI_rg ((cPrt E nest (cnx E (r.2))).1 = true)
          refine rr_aload_n pf_75_45 rfl ?_
          refine rr_getR pf_75_46 po_75 pg_3_14 rfl (ws_200 hW) (by decide) (wr_200_0 q7.1) ?_
          refine rr_iload_n pf_75_49 rfl ?_
          refine rr_iconst pf_75_50 ?_
          obtain ⟨M9, ⟨kq10, pSM9⟩, hcM9⟩ := ct_CS_add (xs := xs) (L := L) (d := d) (E := E) (cl := cl) (s := (cPrt E nest (cnx E (r.2))).2) (op := op) (arg := 0) (by omega) hW q7.1 q7.2.1 pSM6 (by unfold rg; omega) (by unfold rg; omega)
          have q10 := qk_trm q7 kq10 (by decide)
          refine rr_cV2 pf_75_51 po_75 pc_3_129 (ws_201 hW) po_80 (by decide) rfl hcM9 ?_
          refine rr_aload_n pf_75_54 rfl ?_
          refine rr_ldcS pf_75_55 po_75 ps_3_162.1 ps_3_162.2 ?_
          refine rr_bipush pf_75_57 (by decide) ?_
          obtain ⟨r13, M11, ⟨kq12, pvM11⟩, hcM11⟩ := ct_Reader_signIn (xs := xs) (L := L) (d := d) (t := 4) (fo := 7) (by omega) hW q10.1 q10.2.1 pSM9.lx (by decide) (by omega)
          obtain rfl := qk_nil kq12
          have hsbr13 := sgF_b2 (t := 4) (by decide) (K := tkK E.tn E.tb ((cad op 0 ((cPrt E nest (cnx E (r.2))).2))).i) (W := tkW E.tn E.tb ((cad op 0 ((cPrt E nest (cnx E (r.2))).2))).i) (fo := 7) (by omega)
          refine rr_cV2 pf_75_59 po_75 pc_3_150 (ws_200 hW) po_83 (by decide) rfl hcM11 ?_
          refine rr_istore_n pf_75_62 (fun y => [.ref 200, .int (iI (((dep : Nat) : Int))), .int (iI (y8)), .int (iI (y)), .int (iI (((j : Nat) : Int)))]) (Nat.le_of_ble_eq_true rfl) (fun _ => rfl) (fun y14 hy14 => ?_)
          refine rr_iinc pf_75_63 rfl (fun y => [.ref 200, .int (iI (((dep : Nat) : Int))), .int (iI (y8)), .int (iI (y14)), .int (iI (y))]) (fun _ => rfl) (fun y15 hy15 => ?_)
          refine rr_goto 18 pf_75_66 (by decide) ?_
          obtain ⟨nz16, hnz16, rfl⟩ : ∃ zz : Nat, zz = 1 + j ∧ y15 = ((zz : Nat) : Int) := ⟨1 + j, rfl, by omega⟩
          exact ih _ (by omega) ((cPrt E nest (cnx E r.2)).1, cad op 0 (cPrt E nest (cnx E r.2)).2) y8 y14 nz16 M9 rfl q10 (by omega) (pSM9) (by have z := bI_dj (((cPrt E nest (cnx E r.2)).1, cad op 0 (cPrt E nest (cnx E r.2)).2)).1; rw [hy8]; exact z) (by rw [hy14]; exact pvM11) (by rw [hE, show 400 - j = (400 - nz16) + 1 by omega, bLp, if_pos ⟨hr1, by rw [← hop]; omega⟩, ← hop])
theorem ct_CS_term {xs : Nat → Int} {L d : Nat} {sh : List (Nat × Nat)} {M0 : Nat → Nat → Int} (hd : 8 ≤ d) (hW : px_W0 <+: sh) (hF : px_Fx M0) (hG : px_RG sh M0)  {E : rdE} {cl : Nat} {s : cS} (hs : CS M0 E cl s) {nest : Option (cS → Bool × cS)} {dep dd : Nat} (IHp : rdC xs L sh E cl 76 dep (cPrt E nest) dd) (hdd : dd + 1 ≤ d) : ∃ M, (px_qk sh [200, 201, 202, 203] M0 M ∧ (CS M E cl (cTrm E nest s).2)) ∧ px_Cl xs L d 75 [.ref 200, .int (iI (((dep : Nat) : Int)))] (sh, M0) (some (.int (iI (bI ((cTrm E nest s).1 = true))))) (sh, M) := by
  obtain ⟨d, rfl⟩ : ∃ e, d = e + 1 := ⟨d - 1, by omega⟩
  have q0 : px_qk sh [200, 201, 202, 203] M0 M0 := ⟨hF, hG, eo_rf⟩
  refine vc_n (Nat.le_of_ble_eq_true rfl) ?_
  show px_R xs L d 75 (0, [.ref 200, .int (iI (((dep : Nat) : Int))), px_jk, px_jk, px_jk], [], (sh, M0)) (fun r h' => r = some (.int (iI (bI ((cTrm E nest s).1 = true)))) ∧ ∃ M', h' = (sh, M') ∧ px_qk sh [200, 201, 202, 203] M0 M' ∧ CS M' E cl (cTrm E nest s).2)
  refine rr_aload_n pf_75_0 rfl ?_
  refine rr_iload_n pf_75_1 rfl ?_
  obtain ⟨M1, ⟨kq2, pSM1⟩, hcM1⟩ := IHp d M0 s (by omega) q0.1 q0.2.1 hs
  have q2 := qk_trm q0 kq2 (by decide)
  refine rr_cV1 pf_75_2 po_75 pc_3_159 (ws_200 hW) po_76 (by decide) rfl hcM1 ?_
  refine rr_istore_n pf_75_5 (fun y => [.ref 200, .int (iI (((dep : Nat) : Int))), .int (iI (y)), px_jk, px_jk]) (Nat.le_of_ble_eq_true rfl) (fun _ => rfl) (fun y3 hy3 => ?_)
  have ry3 := bI_rg ((cPrt E nest s).1 = true)
  refine rr_aload_n pf_75_6 rfl ?_
  refine rr_ldcS pf_75_7 po_75 ps_3_162.1 ps_3_162.2 ?_
  refine rr_bipush pf_75_9 (by decide) ?_
  obtain ⟨r6, M4, ⟨kq5, pvM4⟩, hcM4⟩ := ct_Reader_signIn (xs := xs) (L := L) (d := d) (t := 4) (fo := 7) (by omega) hW q2.1 q2.2.1 pSM1.lx (by decide) (by omega)
  obtain rfl := qk_nil kq5
  have hsbr6 := sgF_b2 (t := 4) (by decide) (K := tkK E.tn E.tb ((cPrt E nest s).2).i) (W := tkW E.tn E.tb ((cPrt E nest s).2).i) (fo := 7) (by omega)
  refine rr_cV2 pf_75_11 po_75 pc_3_150 (ws_200 hW) po_83 (by decide) rfl hcM4 ?_
  refine rr_istore_n pf_75_14 (fun y => [.ref 200, .int (iI (((dep : Nat) : Int))), .int (iI (y3)), .int (iI (y)), px_jk]) (Nat.le_of_ble_eq_true rfl) (fun _ => rfl) (fun y7 hy7 => ?_)
  refine rr_iconst pf_75_15 ?_
  refine rr_istore pf_75_16 (fun y => [.ref 200, .int (iI (((dep : Nat) : Int))), .int (iI (y3)), .int (iI (y7)), .int (iI (y))]) (Nat.le_of_ble_eq_true rfl) (fun _ => rfl) (fun y8 hy8 => ?_)
  obtain ⟨nz9, hnz9, rfl⟩ : ∃ zz : Nat, zz = 0 ∧ y8 = ((zz : Nat) : Int) := ⟨0, rfl, by omega⟩
  refine lp_CS_term_18 (xs := xs) (L := L) (d := d) (by omega) hW hs IHp hdd (fun r_10 fi_11 op_12 j_13  M14 q15 xS_M14 xE_M14 xf_M14 => ?_) _ (cPrt E nest s) y3 y7 nz9 M1 rfl q2 (by omega) (pSM1) (by have z := bI_dj ((cPrt E nest s)).1; rw [hy3]; exact z) (by rw [hy7]; exact pvM4) (by rw [show nz9 = 0 by omega])
  have hxe : cTrm E nest s = _ := xE_M14
  have hxS := xS_M14
  rw [← hxe] at hxS
  have hxf : fi_11 = bI ((cTrm E nest s).1 = true) := by
    rw [hxe]; rcases xf_M14 with z | z
    · rw [bI_t z.2]; exact z.1
    · rw [bI_f (by rw [z.2]; decide)]; exact z.1
  have hx01 : fi_11 = 0 ∨ fi_11 = 1 := by rcases xf_M14 with z | z <;> omega
  refine rr_iload_n pf_75_69 rfl ?_
  refine rr_zret pf_75_70 pt_75 (by first | exact Or.inl rfl | exact Or.inr rfl | omega) ⟨by congr 3; try exact hxf, M14, rfl, q15, (hxS)⟩
theorem lp_CS_sum_17 {xs : Nat → Int} {L d : Nat} {sh : List (Nat × Nat)} (hd : 7 ≤ d) (hW : px_W0 <+: sh) {M0 : Nat → Nat → Int}  {E : rdE} {cl : Nat} {s : cS} (hs : CS M0 E cl s) {nest : Option (cS → Bool × cS)} {dep dd : Nat} (IHt : rdC xs L sh E cl 75 dep (cTrm E nest) dd) (hdd : dd + 1 ≤ d + 1)  {Q : Option Value → px_H → Prop} (kx : ∀ (r : Bool × cS) (fi : Int) (op : Int) (j : Nat) (M : Nat → Nat → Int), px_qk sh [200, 201, 202, 203] M0 M → (CS M E cl r.2) → (bLp E 5 5 (cTrm E nest) 400 (cTrm E nest s) = r) → ((fi = 1 ∧ r.1 = true) ∨ (fi = 0 ∧ r.1 = false)) → px_R xs L d 74 (67, [.ref 200, .int (iI (((dep : Nat) : Int))), .int (iI (fi)), .int (iI (op)), .int (iI (((j : Nat) : Int)))], [], (sh, M)) Q)  : ∀ (mz : Nat) (r : Bool × cS) (fi : Int) (op : Int) (j : Nat) (M : Nat → Nat → Int), 400 - j = mz → px_qk sh [200, 201, 202, 203] M0 M → (j ≤ 400) → (CS M E cl r.2) → ((fi = 1 ∧ r.1 = true) ∨ (fi = 0 ∧ r.1 = false)) → (op = sgO E 5 5 r.2) → (bLp E 5 5 (cTrm E nest) 400 (cTrm E nest s) = bLp E 5 5 (cTrm E nest) (400 - j) r) → px_R xs L d 74 (17, [.ref 200, .int (iI (((dep : Nat) : Int))), .int (iI (fi)), .int (iI (op)), .int (iI (((j : Nat) : Int)))], [], (sh, M)) Q := by
  intro mz
  induction mz using Nat.strongRecOn with
  | _ mz ih =>
    intro r fi op j M hm hq hj hS hfi hop hE
    have hopb : -1 ≤ op ∧ op < 200 := by rw [hop]; exact sgF_b2 (by decide) (by omega)
    refine rr_iload pf_74_17 rfl ?_
    refine rr_sipush pf_74_19 (by decide) ?_
    refine rr_icmp_ge 67 pf_74_22 (by decide) (by unfold rg; omega) (by unfold rg; omega) (fun c1 => ?_) (fun c1 => ?_)
    · exact kx r fi op j M hq (hS) (by rw [hE, show 400 - j = 0 by omega]; rfl) (hfi)
    · refine rr_iload_n pf_74_25 rfl ?_
      refine rr_if_eq 67 pf_74_26 (by decide) (by unfold rg; omega) (fun c2 => ?_) (fun c2 => ?_)
      · exact kx r fi op j M hq (hS) (by
                      have hr0 : r.1 = false := by
                        rcases hfi with y | y
                        · omega
                        · exact y.2
                      rw [hE]; exact bLp_e (fun z => by rw [hr0] at z; exact absurd z.1 (by decide)) _) (hfi)
      · refine rr_iload_n pf_74_29 rfl ?_
        refine rr_iconst pf_74_30 ?_
        refine rr_icmp_eq 67 pf_74_31 (by decide) (by unfold rg; omega) (by unfold rg; omega) (fun c3 => ?_) (fun c3 => ?_)
        · exact kx r fi op j M hq (hS) (by rw [hE]; exact bLp_e (fun z => by have := z.2; rw [← hop] at this; omega) _) (hfi)
        · have hr1 : r.1 = true := by
            rcases hfi with z | z
            · exact z.2
            · omega
          refine rr_aload_n pf_74_34 rfl ?_
          obtain ⟨M4, ⟨kq5, pSM4⟩, hcM4⟩ := ct_CS_next (xs := xs) (L := L) (d := d) (E := E) (cl := cl) (s := r.2) (by omega) hW hq.1 hq.2.1 hS 
          have q5 := qk_trm hq kq5 (by decide)
          refine rr_cV0 pf_74_35 po_74 pc_3_57 (ws_200 hW) po_59 (by decide) rfl hcM4 ?_
          refine rr_aload_n pf_74_38 rfl ?_
          refine rr_iload_n pf_74_39 rfl ?_
          obtain ⟨M6, ⟨kq7, pSM6⟩, hcM6⟩ := IHt d M4 (cnx E (r.2)) (by omega) q5.1 q5.2.1 pSM4
          have q7 := qk_trm q5 kq7 (by decide)
          refine rr_cV1 pf_74_40 po_74 pc_3_154 (ws_200 hW) po_75 (by decide) rfl hcM6 ?_
          refine rr_istore_n pf_74_43 (fun y => [.ref 200, .int (iI (((dep : Nat) : Int))), .int (iI (y)), .int (iI (op)), .int (iI (((j : Nat) : Int)))]) (Nat.le_of_ble_eq_true rfl) (fun _ => rfl) (fun y8 hy8 => ?_)
          have ry8 := bI_rg ((cTrm E nest (cnx E (r.2))).1 = true)
          refine rr_aload_n pf_74_44 rfl ?_
          refine rr_getR pf_74_45 po_74 pg_3_14 rfl (ws_200 hW) (by decide) (wr_200_0 q7.1) ?_
          refine rr_iload_n pf_74_48 rfl ?_
          refine rr_iconst pf_74_49 ?_
          obtain ⟨M9, ⟨kq10, pSM9⟩, hcM9⟩ := ct_CS_add (xs := xs) (L := L) (d := d) (E := E) (cl := cl) (s := (cTrm E nest (cnx E (r.2))).2) (op := op) (arg := 0) (by omega) hW q7.1 q7.2.1 pSM6 (by unfold rg; omega) (by unfold rg; omega)
          have q10 := qk_trm q7 kq10 (by decide)
          refine rr_cV2 pf_74_50 po_74 pc_3_129 (ws_201 hW) po_80 (by decide) rfl hcM9 ?_
          refine rr_aload_n pf_74_53 rfl ?_
          refine rr_ldcS pf_74_54 po_74 ps_3_157.1 ps_3_157.2 ?_
          refine rr_iconst pf_74_56 ?_
          obtain ⟨r13, M11, ⟨kq12, pvM11⟩, hcM11⟩ := ct_Reader_signIn (xs := xs) (L := L) (d := d) (t := 5) (fo := 5) (by omega) hW q10.1 q10.2.1 pSM9.lx (by decide) (by omega)
          obtain rfl := qk_nil kq12
          have hsbr13 := sgF_b2 (t := 5) (by decide) (K := tkK E.tn E.tb ((cad op 0 ((cTrm E nest (cnx E (r.2))).2))).i) (W := tkW E.tn E.tb ((cad op 0 ((cTrm E nest (cnx E (r.2))).2))).i) (fo := 5) (by omega)
          refine rr_cV2 pf_74_57 po_74 pc_3_150 (ws_200 hW) po_83 (by decide) rfl hcM11 ?_
          refine rr_istore_n pf_74_60 (fun y => [.ref 200, .int (iI (((dep : Nat) : Int))), .int (iI (y8)), .int (iI (y)), .int (iI (((j : Nat) : Int)))]) (Nat.le_of_ble_eq_true rfl) (fun _ => rfl) (fun y14 hy14 => ?_)
          refine rr_iinc pf_74_61 rfl (fun y => [.ref 200, .int (iI (((dep : Nat) : Int))), .int (iI (y8)), .int (iI (y14)), .int (iI (y))]) (fun _ => rfl) (fun y15 hy15 => ?_)
          refine rr_goto 17 pf_74_64 (by decide) ?_
          obtain ⟨nz16, hnz16, rfl⟩ : ∃ zz : Nat, zz = 1 + j ∧ y15 = ((zz : Nat) : Int) := ⟨1 + j, rfl, by omega⟩
          exact ih _ (by omega) ((cTrm E nest (cnx E r.2)).1, cad op 0 (cTrm E nest (cnx E r.2)).2) y8 y14 nz16 M9 rfl q10 (by omega) (pSM9) (by have z := bI_dj (((cTrm E nest (cnx E r.2)).1, cad op 0 (cTrm E nest (cnx E r.2)).2)).1; rw [hy8]; exact z) (by rw [hy14]; exact pvM11) (by rw [hE, show 400 - j = (400 - nz16) + 1 by omega, bLp, if_pos ⟨hr1, by rw [← hop]; omega⟩, ← hop])
theorem ct_CS_sum {xs : Nat → Int} {L d : Nat} {sh : List (Nat × Nat)} {M0 : Nat → Nat → Int} (hd : 8 ≤ d) (hW : px_W0 <+: sh) (hF : px_Fx M0) (hG : px_RG sh M0)  {E : rdE} {cl : Nat} {s : cS} (hs : CS M0 E cl s) {nest : Option (cS → Bool × cS)} {dep dd : Nat} (IHt : rdC xs L sh E cl 75 dep (cTrm E nest) dd) (hdd : dd + 1 ≤ d) : ∃ M, (px_qk sh [200, 201, 202, 203] M0 M ∧ (CS M E cl (cSum E nest s).2)) ∧ px_Cl xs L d 74 [.ref 200, .int (iI (((dep : Nat) : Int)))] (sh, M0) (some (.int (iI (bI ((cSum E nest s).1 = true))))) (sh, M) := by
  obtain ⟨d, rfl⟩ : ∃ e, d = e + 1 := ⟨d - 1, by omega⟩
  have q0 : px_qk sh [200, 201, 202, 203] M0 M0 := ⟨hF, hG, eo_rf⟩
  refine vc_n (Nat.le_of_ble_eq_true rfl) ?_
  show px_R xs L d 74 (0, [.ref 200, .int (iI (((dep : Nat) : Int))), px_jk, px_jk, px_jk], [], (sh, M0)) (fun r h' => r = some (.int (iI (bI ((cSum E nest s).1 = true)))) ∧ ∃ M', h' = (sh, M') ∧ px_qk sh [200, 201, 202, 203] M0 M' ∧ CS M' E cl (cSum E nest s).2)
  refine rr_aload_n pf_74_0 rfl ?_
  refine rr_iload_n pf_74_1 rfl ?_
  obtain ⟨M1, ⟨kq2, pSM1⟩, hcM1⟩ := IHt d M0 s (by omega) q0.1 q0.2.1 hs
  have q2 := qk_trm q0 kq2 (by decide)
  refine rr_cV1 pf_74_2 po_74 pc_3_154 (ws_200 hW) po_75 (by decide) rfl hcM1 ?_
  refine rr_istore_n pf_74_5 (fun y => [.ref 200, .int (iI (((dep : Nat) : Int))), .int (iI (y)), px_jk, px_jk]) (Nat.le_of_ble_eq_true rfl) (fun _ => rfl) (fun y3 hy3 => ?_)
  have ry3 := bI_rg ((cTrm E nest s).1 = true)
  refine rr_aload_n pf_74_6 rfl ?_
  refine rr_ldcS pf_74_7 po_74 ps_3_157.1 ps_3_157.2 ?_
  refine rr_iconst pf_74_9 ?_
  obtain ⟨r6, M4, ⟨kq5, pvM4⟩, hcM4⟩ := ct_Reader_signIn (xs := xs) (L := L) (d := d) (t := 5) (fo := 5) (by omega) hW q2.1 q2.2.1 pSM1.lx (by decide) (by omega)
  obtain rfl := qk_nil kq5
  have hsbr6 := sgF_b2 (t := 5) (by decide) (K := tkK E.tn E.tb ((cTrm E nest s).2).i) (W := tkW E.tn E.tb ((cTrm E nest s).2).i) (fo := 5) (by omega)
  refine rr_cV2 pf_74_10 po_74 pc_3_150 (ws_200 hW) po_83 (by decide) rfl hcM4 ?_
  refine rr_istore_n pf_74_13 (fun y => [.ref 200, .int (iI (((dep : Nat) : Int))), .int (iI (y3)), .int (iI (y)), px_jk]) (Nat.le_of_ble_eq_true rfl) (fun _ => rfl) (fun y7 hy7 => ?_)
  refine rr_iconst pf_74_14 ?_
  refine rr_istore pf_74_15 (fun y => [.ref 200, .int (iI (((dep : Nat) : Int))), .int (iI (y3)), .int (iI (y7)), .int (iI (y))]) (Nat.le_of_ble_eq_true rfl) (fun _ => rfl) (fun y8 hy8 => ?_)
  obtain ⟨nz9, hnz9, rfl⟩ : ∃ zz : Nat, zz = 0 ∧ y8 = ((zz : Nat) : Int) := ⟨0, rfl, by omega⟩
  refine lp_CS_sum_17 (xs := xs) (L := L) (d := d) (by omega) hW hs IHt hdd (fun r_10 fi_11 op_12 j_13  M14 q15 xS_M14 xE_M14 xf_M14 => ?_) _ (cTrm E nest s) y3 y7 nz9 M1 rfl q2 (by omega) (pSM1) (by have z := bI_dj ((cTrm E nest s)).1; rw [hy3]; exact z) (by rw [hy7]; exact pvM4) (by rw [show nz9 = 0 by omega])
  have hxe : cSum E nest s = _ := xE_M14
  have hxS := xS_M14
  rw [← hxe] at hxS
  have hxf : fi_11 = bI ((cSum E nest s).1 = true) := by
    rw [hxe]; rcases xf_M14 with z | z
    · rw [bI_t z.2]; exact z.1
    · rw [bI_f (by rw [z.2]; decide)]; exact z.1
  have hx01 : fi_11 = 0 ∨ fi_11 = 1 := by rcases xf_M14 with z | z <;> omega
  refine rr_iload_n pf_74_67 rfl ?_
  refine rr_zret pf_74_68 pt_74 (by first | exact Or.inl rfl | exact Or.inr rfl | omega) ⟨by congr 3; try exact hxf, M14, rfl, q15, (hxS)⟩

/-! the class's orders, as they are run -/
theorem tx201 {sh : List (Nat × Nat)} {M : Nat → Nat → Int} (hW : px_W0 <+: sh) (hF : px_Fx M) : px_tx sh M 201 400 12 := ⟨ws_201 hW, ws_202 hW, ws_203 hW, ws_204 hW, wr_201_0 hF, wr_201_1 hF, wr_201_2 hF, by decide, by decide, Or.inl rfl⟩
def vz (ab : Int) (v : Nat → Int) : Nat → Int := fun j => if j = 4 ∧ ab = 0 then 0 else v j
def coM (o a g : Nat → Int) (ab : Int) (p : Nat) (f : sp_E → Option Int) (df : Int) : Prop := ∃ fr to : Nat, g p = ((fr : Nat) : Int) ∧ g (p + 1) = ((to : Nat) : Int) ∧ fr ≤ to ∧ to ≤ 400 ∧ ∀ v, od_bnd v → (fr = to → f v = some df) ∧ (fr < to → ∀ w, (∀ j, j < 59 → w j = vz ab v j) → wC o a w 59 fr to = oI (f v) ∧ ∀ y, f v = some y → -1000000000 ≤ y ∧ y ≤ 1000000001)
def co_cl (o a g : Nat → Int) (ab : Int) (c : Nat) (x : od_C) : Prop := (0 ≤ x.1 ∧ x.1 ≤ 4) ∧ g (c * 8 + 0) = x.1 ∧ g (c * 8 + 1) = ((x.2.1 : Nat) : Int) ∧ x.2.1 ≤ 20 ∧ coM o a g ab (c * 8 + 6) x.2.2.1 1 ∧ coM o a g ab (c * 8 + 2) x.2.2.2.1 (-1) ∧ coM o a g ab (c * 8 + 4) x.2.2.2.2 (-1) ∧ (x.1 ≤ 3 → g (c * 8 + 2) < g (c * 8 + 2 + 1)) ∧ (x.1 = 1 ∨ x.1 = 3 → g (c * 8 + 4) < g (c * 8 + 4 + 1))
/-- all that the text's arrays hold is bounded -/
def coA (o a : Nat → Int) : Prop := (∀ i, i < 400 → 0 ≤ a i ∧ a i ≤ 1000000000) ∧ (∀ i, i < 400 → 0 ≤ o i)
theorem wC_nil {o a v : Nat → Int} {n x : Nat} : wC o a v n x x = 1 := by unfold wC; rw [Nat.sub_self]; rfl
/-- what a sum is worth, where it is told -/
def wrI (f : Option Int) (df r : Int) (ne : Prop) : Prop := (f = none ∧ r = -2000000000) ∨ ∃ y, f = some y ∧ (-1000000000 ≤ y ∧ y ≤ 1000000001) ∧ (-1000000000 ≤ r ∧ r ≤ 1000000001) ∧ (ne → r = y) ∧ (¬ ne → y = df ∧ r = 1)
theorem co_worth {xs : Nat → Int} {L d : Nat} {sh : List (Nat × Nat)} {M : Nat → Nat → Int} (hd : 2 ≤ d) (hW : px_W0 <+: sh) (hF : px_Fx M) (hG : px_RG sh M) {ab : Int} {cl pt : Nat} {f : sp_E → Option Int} {df : Int} (hdf : -1 ≤ df ∧ df ≤ 1) (h : coM (M 202) (M 203) (M 204) ab (cl * 8 + pt) f df) (hA : coA (M 202) (M 203)) (hcl : cl < 12) (hpt : pt < 7) {v : Nat → Int} (hb : od_bnd v) (hv : ∀ j, j < 59 → M 174 j = vz ab v j) : ∃ r M', (px_qk sh [2] M M' ∧ wrI (f v) df r (M 204 (cl * 8 + pt) < M 204 (cl * 8 + pt + 1))) ∧ px_Cl xs L d 25 [.ref 1, .ref 201, .int (iI (((cl : Nat) : Int))), .int (iI (((pt : Nat) : Int))), .ref 174] (sh, M) (some (.int (iI r))) (sh, M') := by
  obtain ⟨fr, to, h1, h2, h3, h4, h5⟩ := h
  obtain ⟨h6, h7⟩ := h5 v hb
  have hvb : ∀ j, j < 59 → -1000000000 ≤ M 174 j ∧ M 174 j ≤ 1000000000 := by
    intro j hj
    rw [hv j hj]
    unfold vz
    split
    · omega
    · exact hb j hj
  obtain ⟨M', k, hc⟩ := ct_Sums_worth (xs := xs) (L := L) (d := d) hd hW hF hG (tx201 hW hF) (ws_174 hW) (by decide) (by decide) hcl hpt h1 h2 h3 h4 hA.1 hvb hA.2
  refine ⟨_, M', ⟨k, ?_⟩, hc⟩
  show wrI (f v) df (wC (M 202) (M 203) (M 174) 59 fr to) _
  by_cases e : fr = to
  · subst e
    rw [wC_nil]
    exact Or.inr ⟨df, h6 rfl, by omega, by omega, fun z => by omega, fun _ => ⟨rfl, rfl⟩⟩
  · obtain ⟨g1, g2⟩ := h7 (by omega) (M 174) hv
    rw [g1]
    cases hf : f v with
    | none => exact Or.inl ⟨rfl, rfl⟩
    | some y => exact Or.inr ⟨y, rfl, g2 y hf, g2 y hf, fun _ => rfl, fun z => absurd (show M 204 (cl * 8 + pt) < M 204 (cl * 8 + pt + 1) by omega) z⟩
theorem nn_copy {M M2 : Nat → Nat → Int} {j : Nat} (hj : nj j) (h : nnEq M2 M 4 99) : rc M2 3 j = nn M 99 j := by rw [nn_rc (cb := 3) hj]; exact h j hj
abbrev rnA : List Nat := [2, 4, 5, 6, 7, 12, 13, 98, 174] ++ px_trA 27
theorem lp_Runner_fillValues_96 {xs : Nat → Int} {L d : Nat} {sh : List (Nat × Nat)} (hd : 7 ≤ d) (hW : px_W0 <+: sh) {M0 : Nat → Nat → Int}  {ρ : Nat → Int} (hR : rc M0 3 = ρ) (hρ : sp_ok ρ) {lw : List sp_C} (hlw : px_lw sh M0 3 lw) {dn lt ab : Int} (hdn : M0 98 7 = dn) (hlt : M0 98 8 = lt) (hab : ab = 0 ∨ ab = 1)  {Q : Option Value → px_H → Prop} (kx : ∀ (l : Nat) (M : Nat → Nat → Int), px_qk sh [2, 13, 174] M0 M → (∀ j, j < 59 → M 174 j = vz ab (od_env lw ρ dn lt) j) → px_R xs L d 98 (144, [.ref 98, .int (iI (ab)), .int (iI (((l : Nat) : Int)))], [], (sh, M)) Q)  : ∀ (mz : Nat) (l : Nat) (M : Nat → Nat → Int), 6 - l = mz → px_qk sh [2, 13, 174] M0 M → (l ≤ 6) → (∀ j, j < 53 + l → M 174 j = vz ab (od_env lw ρ dn lt) j) → px_R xs L d 98 (96, [.ref 98, .int (iI (ab)), .int (iI (((l : Nat) : Int)))], [], (sh, M)) Q := by
  intro mz
  induction mz using Nat.strongRecOn with
  | _ mz ih =>
    intro l M hm hq hl hv
    have h1 := hρ.2.1
    refine rr_iload_n pf_98_96 rfl ?_
    refine rr_bipush pf_98_97 (by decide) ?_
    refine rr_icmp_ge 144 pf_98_99 (by decide) (by unfold rg; omega) (by unfold rg; omega) (fun c1 => ?_) (fun c1 => ?_)
    · exact kx l M hq (by intro j hj; exact hv j (by omega))
    · refine rr_aload_n pf_98_102 rfl ?_
      refine rr_getR pf_98_103 po_98 pg_4_29 rfl (ws_98 hW) (by decide) (wr_98_6 hq.1) ?_
      refine rr_bipush pf_98_106 (by decide) ?_
      refine rr_iload_n pf_98_108 rfl ?_
      refine rr_iadd pf_98_109 ?_
      refine rr_aload_n pf_98_110 rfl ?_
      refine rr_getR pf_98_111 po_98 pg_4_39 rfl (ws_98 hW) (by decide) (wr_98_1 hq.1) ?_
      refine rr_iload_n pf_98_114 rfl ?_
      have hbhz2 : 0 ≤ M 3 7 := (show 0 ≤ rc M 3 1 by rw [((rc_eo hq.2.2 (by decide)).trans hR)]; omega)
      have hz2 := ct_Church_isListener (xs := xs) (L := L) (d := d) (cb := 3) (v := ((l : Nat) : Int)) (by omega) hW hq.1 hq.2.1 px_ch3 (by unfold rg; omega) hbhz2
      rw [show M 3 7 = ρ 1 from (show rc M 3 1 = ρ 1 by rw [((rc_eo hq.2.2 (by decide)).trans hR)])] at hz2
      refine rr_cV1 pf_98_115 po_98 pc_4_128 (ws_3 hW) po_40 (by decide) rfl hz2 ?_
      refine rr_ifb_eq 136 pf_98_118 (by decide) (fun c3 => ?_) (fun c3 => ?_)
      · refine rr_iconst pf_98_136 ?_
        refine vr_iast (j := (53 + l)) hW hq pf_98_137 (ws_174 hW) (by omega) (by omega) (by decide) (by unfold rg; omega) (by decide) (fun M4 eM4 q5 => ?_)
        refine rr_iinc pf_98_138 rfl (fun y => [.ref 98, .int (iI (ab)), .int (iI (y))]) (fun _ => rfl) (fun y6 hy6 => ?_)
        refine rr_goto 96 pf_98_141 (by decide) ?_
        obtain ⟨nz7, hnz7, rfl⟩ : ∃ zz : Nat, zz = 1 + l ∧ y6 = ((zz : Nat) : Int) := ⟨1 + l, rfl, by omega⟩
        exact ih _ (by omega) nz7 M4 rfl q5 (by omega) (by
                      intro j hj; rw [eM4, ask_up]; by_cases hz : j = 53 + l
                      · rw [if_pos (by omega), hz]; unfold vz; rw [if_neg (by omega)]; unfold od_env; rw [if_neg (by omega), if_neg (by omega), if_neg (by omega), if_neg (by omega), if_neg (by omega), if_neg (by omega), show 53 + l - 53 = l by omega, if_neg (by omega)]
                      · rw [if_neg (by omega)]; exact hv j (by omega))
      · refine rr_aload_n pf_98_121 rfl ?_
        refine rr_getR pf_98_122 po_98 pg_4_39 rfl (ws_98 hW) (by decide) (wr_98_1 hq.1) ?_
        refine rr_getR pf_98_125 po_98 pg_4_50 rfl (ws_3 hW) (by decide) (wr_3_0 hq.1) ?_
        refine rr_getR pf_98_128 po_98 pg_4_132 rfl (ws_4 hW) (by decide) (wr_4_1 hq.1) ?_
        refine rr_iload_n pf_98_131 rfl ?_
        refine vr_iald (j := l) hq pf_98_132 (ws_6 hW) (by omega) (by omega) (by decide) (fun x8 hx8 rx8 => ?_)
        rw [hq.2.2 6 (by decide)] at hx8
        rw [c3_6 (M := M0) (i := l) (by omega), hR] at hx8
        refine rr_goto 137 pf_98_133 (by decide) ?_
        refine vr_iast (j := (53 + l)) hW hq pf_98_137 (ws_174 hW) (by omega) (by omega) (by decide) rx8 (by decide) (fun M9 eM9 q10 => ?_)
        refine rr_iinc pf_98_138 rfl (fun y => [.ref 98, .int (iI (ab)), .int (iI (y))]) (fun _ => rfl) (fun y11 hy11 => ?_)
        refine rr_goto 96 pf_98_141 (by decide) ?_
        obtain ⟨nz12, hnz12, rfl⟩ : ∃ zz : Nat, zz = 1 + l ∧ y11 = ((zz : Nat) : Int) := ⟨1 + l, rfl, by omega⟩
        exact ih _ (by omega) nz12 M9 rfl q10 (by omega) (by
                      intro j hj; rw [eM9, ask_up]; by_cases hz : j = 53 + l
                      · rw [if_pos (by omega), hz]; unfold vz; rw [if_neg (by omega)]; unfold od_env; rw [if_neg (by omega), if_neg (by omega), if_neg (by omega), if_neg (by omega), if_neg (by omega), if_neg (by omega), show 53 + l - 53 = l by omega, if_pos (by omega), show 10 + (53 + l) = 63 + l by omega]; exact hx8
                      · rw [if_neg (by omega)]; exact hv j (by omega))
theorem ct_Runner_fillValues {xs : Nat → Int} {L d : Nat} {sh : List (Nat × Nat)} {M0 : Nat → Nat → Int} (hd : 8 ≤ d) (hW : px_W0 <+: sh) (hF : px_Fx M0) (hG : px_RG sh M0)  {ρ : Nat → Int} (hR : rc M0 3 = ρ) (hρ : sp_ok ρ) {lw : List sp_C} (hlw : px_lw sh M0 3 lw) {dn lt ab : Int} (hdn : M0 98 7 = dn) (hlt : M0 98 8 = lt) (hab : ab = 0 ∨ ab = 1) : ∃ M, (px_qk sh [2, 13, 174] M0 M ∧ (∀ j, j < 59 → M 174 j = vz ab (od_env lw ρ dn lt) j)) ∧ px_Cl xs L d 98 [.ref 98, .int (iI (ab))] (sh, M0) (none) (sh, M) := by
  obtain ⟨d, rfl⟩ : ∃ e, d = e + 1 := ⟨d - 1, by omega⟩
  have q0 : px_qk sh [2, 13, 174] M0 M0 := ⟨hF, hG, eo_rf⟩
  refine vc_n (Nat.le_of_ble_eq_true rfl) ?_
  show px_R xs L d 98 (0, [.ref 98, .int (iI (ab)), px_jk], [], (sh, M0)) (fun r h' => r = none ∧ ∃ M', h' = (sh, M') ∧ px_qk sh [2, 13, 174] M0 M' ∧ (∀ j, j < 59 → M' 174 j = vz ab (od_env lw ρ dn lt) j))
  refine rr_aload_n pf_98_0 rfl ?_
  refine rr_getR pf_98_1 po_98 pg_4_29 rfl (ws_98 hW) (by decide) (wr_98_6 q0.1) ?_
  refine rr_iconst pf_98_4 ?_
  refine rr_aload_n pf_98_5 rfl ?_
  refine rr_getR pf_98_6 po_98 pg_4_39 rfl (ws_98 hW) (by decide) (wr_98_1 q0.1) ?_
  refine rr_getR pf_98_9 po_98 pg_4_50 rfl (ws_3 hW) (by decide) (wr_3_0 q0.1) ?_
  refine vr_getI q0 pf_98_12 po_98 pg_4_110 rfl (ws_4 hW) (by decide) (fun x1 hx1 rx1 => ?_)
  change x1 = rc M0 3 5 at hx1
  rw [hR] at hx1
  refine vr_iast (j := 0) hW q0 pf_98_15 (ws_174 hW) (by omega) (by omega) (by decide) rx1 (by decide) (fun M2 eM2 q3 => ?_)
  refine rr_aload_n pf_98_16 rfl ?_
  refine rr_getR pf_98_17 po_98 pg_4_29 rfl (ws_98 hW) (by decide) (wr_98_6 q3.1) ?_
  refine rr_iconst pf_98_20 ?_
  refine rr_aload_n pf_98_21 rfl ?_
  refine vr_getI q3 pf_98_22 po_98 pg_4_33 rfl (ws_98 hW) (by decide) (fun x4 hx4 rx4 => ?_)
  rw [q3.2.2 98 (by decide)] at hx4
  rw [hdn] at hx4
  refine vr_iast (j := 1) hW q3 pf_98_25 (ws_174 hW) (by omega) (by omega) (by decide) rx4 (by decide) (fun M5 eM5 q6 => ?_)
  refine rr_aload_n pf_98_26 rfl ?_
  refine rr_getR pf_98_27 po_98 pg_4_29 rfl (ws_98 hW) (by decide) (wr_98_6 q6.1) ?_
  refine rr_iconst pf_98_30 ?_
  refine rr_aload_n pf_98_31 rfl ?_
  refine vr_getI q6 pf_98_32 po_98 pg_4_36 rfl (ws_98 hW) (by decide) (fun x7 hx7 rx7 => ?_)
  rw [q6.2.2 98 (by decide)] at hx7
  rw [hlt] at hx7
  refine vr_iast (j := 2) hW q6 pf_98_35 (ws_174 hW) (by omega) (by omega) (by decide) rx7 (by decide) (fun M8 eM8 q9 => ?_)
  refine rr_aload_n pf_98_36 rfl ?_
  refine rr_getR pf_98_37 po_98 pg_4_29 rfl (ws_98 hW) (by decide) (wr_98_6 q9.1) ?_
  refine rr_iconst pf_98_40 ?_
  refine rr_aload_n pf_98_41 rfl ?_
  refine rr_getR pf_98_42 po_98 pg_4_39 rfl (ws_98 hW) (by decide) (wr_98_1 q9.1) ?_
  refine rr_getR pf_98_45 po_98 pg_4_50 rfl (ws_3 hW) (by decide) (wr_3_0 q9.1) ?_
  refine vr_getI q9 pf_98_48 po_98 pg_4_113 rfl (ws_4 hW) (by decide) (fun x10 hx10 rx10 => ?_)
  rw [q9.2.2 4 (by decide)] at hx10
  change x10 = rc M0 3 8 at hx10
  rw [hR] at hx10
  refine vr_iast (j := 3) hW q9 pf_98_51 (ws_174 hW) (by omega) (by omega) (by decide) rx10 (by decide) (fun M11 eM11 q12 => ?_)
  refine rr_aload_n pf_98_52 rfl ?_
  refine rr_getR pf_98_53 po_98 pg_4_29 rfl (ws_98 hW) (by decide) (wr_98_6 q12.1) ?_
  refine rr_iconst pf_98_56 ?_
  refine rr_iload_n pf_98_57 rfl ?_
  refine rr_if_eq 71 pf_98_58 (by decide) (by unfold rg; omega) (fun c13 => ?_) (fun c13 => ?_)
  · refine rr_iconst pf_98_71 ?_
    have hnb := nblk_b lw ρ 16
    refine vr_iast (j := 4) hW q12 pf_98_72 (ws_174 hW) (by omega) (by omega) (by decide) (by unfold rg; omega) (by decide) (fun M14 eM14 q15 => ?_)
    refine rr_aload_n pf_98_73 rfl ?_
    refine rr_getR pf_98_74 po_98 pg_4_39 rfl (ws_98 hW) (by decide) (wr_98_1 q15.1) ?_
    refine rr_getR pf_98_77 po_98 pg_4_50 rfl (ws_3 hW) (by decide) (wr_3_0 q15.1) ?_
    refine rr_getR pf_98_80 po_98 pg_4_119 rfl (ws_4 hW) (by decide) (wr_4_0 q15.1) ?_
    refine rr_iconst pf_98_83 ?_
    refine rr_aload_n pf_98_84 rfl ?_
    refine rr_getR pf_98_85 po_98 pg_4_29 rfl (ws_98 hW) (by decide) (wr_98_6 q15.1) ?_
    refine rr_iconst pf_98_88 ?_
    refine rr_bipush pf_98_89 (by decide) ?_
    refine vr_copy (js := 0) (jd := 5) (jm := 48) hW q15 pf_98_91 po_98 pc_4_122 rfl (ws_5 hW) (ws_174 hW) (by omega) (by omega) (by omega) (by omega) (by omega) (by decide) (by decide) (by decide) (fun M16 eM16 q17 => ?_)
    have hlow : ∀ j, j < 5 → M14 174 j = vz ab (od_env lw ρ dn lt) j := by
      intro j hj
      rcases (show j = 0 ∨ j = 1 ∨ j = 2 ∨ j = 3 ∨ j = 4 by omega) with rfl | rfl | rfl | rfl | rfl
      · rw [eM14, up_ne (by decide), eM11, up_ne (by decide), eM8, up_ne (by decide), eM5, up_ne (by decide), eM2, up_s]; unfold vz; rw [if_neg (by omega)]; unfold od_env; rw [if_pos rfl]; exact hx1
      · rw [eM14, up_ne (by decide), eM11, up_ne (by decide), eM8, up_ne (by decide), eM5, up_s]; unfold vz; rw [if_neg (by omega)]; unfold od_env; rw [if_neg (by omega), if_pos rfl]; exact hx4
      · rw [eM14, up_ne (by decide), eM11, up_ne (by decide), eM8, up_s]; unfold vz; rw [if_neg (by omega)]; unfold od_env; rw [if_neg (by omega), if_neg (by omega), if_pos rfl]; exact hx7
      · rw [eM14, up_ne (by decide), eM11, up_s]; unfold vz; rw [if_neg (by omega)]; unfold od_env; rw [if_neg (by omega), if_neg (by omega), if_neg (by omega), if_pos rfl]; exact hx10
      · rw [eM14, up_s]; unfold vz; rw [if_pos ⟨rfl, by omega⟩]
    have h5c : M14 5 = M0 5 := q15.2.2 5 (by decide)
    have hmid : ∀ j, j < 53 → M16 174 j = vz ab (od_env lw ρ dn lt) j := by
      intro j hj
      rw [eM16]
      unfold px_copy px_cl
      rw [if_pos rfl]
      show (if 5 ≤ j ∧ j < 5 + 48 then M14 5 (0 + (j - 5)) else M14 174 j) = _
      by_cases hc : 5 ≤ j ∧ j < 5 + 48
      · rw [if_pos hc, h5c, c3_5 (M := M0) (i := 0 + (j - 5)) (by omega), hR]
        unfold vz
        rw [if_neg (by omega)]
        unfold od_env
        rw [if_neg (by omega), if_neg (by omega), if_neg (by omega), if_neg (by omega), if_neg (by omega), if_pos (by omega)]
        congr 1; omega
      · rw [if_neg hc]; exact hlow j (by omega)
    refine rr_iconst pf_98_94 ?_
    refine rr_istore_n pf_98_95 (fun y => [.ref 98, .int (iI (ab)), .int (iI (y))]) (Nat.le_of_ble_eq_true rfl) (fun _ => rfl) (fun y18 hy18 => ?_)
    obtain ⟨nz19, hnz19, rfl⟩ : ∃ zz : Nat, zz = 0 ∧ y18 = ((zz : Nat) : Int) := ⟨0, rfl, by omega⟩
    refine lp_Runner_fillValues_96 (xs := xs) (L := L) (d := d) (by omega) hW hR hρ hlw hdn hlt hab (fun l_20  M21 q22 xv_M21 => ?_) _ nz19 M16 rfl q17 (by omega) (by intro j hj; exact hmid j (by omega))
    refine rr_vret pf_98_144 pt_98 ⟨rfl, M21, rfl, q22, (xv_M21)⟩
  · refine rr_aload_n pf_98_61 rfl ?_
    refine rr_getR pf_98_62 po_98 pg_4_39 rfl (ws_98 hW) (by decide) (wr_98_1 q12.1) ?_
    obtain ⟨M23, kq24, hcM23⟩ := ct_Church_blackPanes (xs := xs) (L := L) (d := d) (cb := 3) (by omega) hW q12.1 q12.2.1 (show px_ch 3 by unfold px_ch; decide) (show sp_ok (rc M11 3) from by rw [((rc_eo q12.2.2 (by decide)).trans hR)]; exact hρ) (lw_eo hlw q12.2.2 (by decide) (by decide) (by decide)) 
    rw [((rc_eo q12.2.2 (by decide)).trans hR)] at hcM23
    have q24 := qk_trm q12 kq24 (by decide)
    refine rr_cV0 pf_98_65 po_98 pc_4_116 (ws_3 hW) po_99 (by decide) rfl hcM23 ?_
    refine rr_goto 72 pf_98_68 (by decide) ?_
    have hnb := nblk_b lw ρ 16
    refine vr_iast (j := 4) hW q24 pf_98_72 (ws_174 hW) (by omega) (by omega) (by decide) (by unfold rg; omega) (by decide) (fun M25 eM25 q26 => ?_)
    refine rr_aload_n pf_98_73 rfl ?_
    refine rr_getR pf_98_74 po_98 pg_4_39 rfl (ws_98 hW) (by decide) (wr_98_1 q26.1) ?_
    refine rr_getR pf_98_77 po_98 pg_4_50 rfl (ws_3 hW) (by decide) (wr_3_0 q26.1) ?_
    refine rr_getR pf_98_80 po_98 pg_4_119 rfl (ws_4 hW) (by decide) (wr_4_0 q26.1) ?_
    refine rr_iconst pf_98_83 ?_
    refine rr_aload_n pf_98_84 rfl ?_
    refine rr_getR pf_98_85 po_98 pg_4_29 rfl (ws_98 hW) (by decide) (wr_98_6 q26.1) ?_
    refine rr_iconst pf_98_88 ?_
    refine rr_bipush pf_98_89 (by decide) ?_
    refine vr_copy (js := 0) (jd := 5) (jm := 48) hW q26 pf_98_91 po_98 pc_4_122 rfl (ws_5 hW) (ws_174 hW) (by omega) (by omega) (by omega) (by omega) (by omega) (by decide) (by decide) (by decide) (fun M27 eM27 q28 => ?_)
    have hlow : ∀ j, j < 5 → M25 174 j = vz ab (od_env lw ρ dn lt) j := by
      intro j hj
      rcases (show j = 0 ∨ j = 1 ∨ j = 2 ∨ j = 3 ∨ j = 4 by omega) with rfl | rfl | rfl | rfl | rfl
      · rw [eM25, up_ne (by decide), kq24.2.2 174 (by decide), eM11, up_ne (by decide), eM8, up_ne (by decide), eM5, up_ne (by decide), eM2, up_s]; unfold vz; rw [if_neg (by omega)]; unfold od_env; rw [if_pos rfl]; exact hx1
      · rw [eM25, up_ne (by decide), kq24.2.2 174 (by decide), eM11, up_ne (by decide), eM8, up_ne (by decide), eM5, up_s]; unfold vz; rw [if_neg (by omega)]; unfold od_env; rw [if_neg (by omega), if_pos rfl]; exact hx4
      · rw [eM25, up_ne (by decide), kq24.2.2 174 (by decide), eM11, up_ne (by decide), eM8, up_s]; unfold vz; rw [if_neg (by omega)]; unfold od_env; rw [if_neg (by omega), if_neg (by omega), if_pos rfl]; exact hx7
      · rw [eM25, up_ne (by decide), kq24.2.2 174 (by decide), eM11, up_s]; unfold vz; rw [if_neg (by omega)]; unfold od_env; rw [if_neg (by omega), if_neg (by omega), if_neg (by omega), if_pos rfl]; exact hx10
      · rw [eM25, up_s]; unfold vz; rw [if_neg (by omega)]; unfold od_env; rw [if_neg (by omega), if_neg (by omega), if_neg (by omega), if_neg (by omega), if_pos rfl]
    have h5c : M25 5 = M0 5 := q26.2.2 5 (by decide)
    have hmid : ∀ j, j < 53 → M27 174 j = vz ab (od_env lw ρ dn lt) j := by
      intro j hj
      rw [eM27]
      unfold px_copy px_cl
      rw [if_pos rfl]
      show (if 5 ≤ j ∧ j < 5 + 48 then M25 5 (0 + (j - 5)) else M25 174 j) = _
      by_cases hc : 5 ≤ j ∧ j < 5 + 48
      · rw [if_pos hc, h5c, c3_5 (M := M0) (i := 0 + (j - 5)) (by omega), hR]
        unfold vz
        rw [if_neg (by omega)]
        unfold od_env
        rw [if_neg (by omega), if_neg (by omega), if_neg (by omega), if_neg (by omega), if_neg (by omega), if_pos (by omega)]
        congr 1; omega
      · rw [if_neg hc]; exact hlow j (by omega)
    refine rr_iconst pf_98_94 ?_
    refine rr_istore_n pf_98_95 (fun y => [.ref 98, .int (iI (ab)), .int (iI (y))]) (Nat.le_of_ble_eq_true rfl) (fun _ => rfl) (fun y29 hy29 => ?_)
    obtain ⟨nz30, hnz30, rfl⟩ : ∃ zz : Nat, zz = 0 ∧ y29 = ((zz : Nat) : Int) := ⟨0, rfl, by omega⟩
    refine lp_Runner_fillValues_96 (xs := xs) (L := L) (d := d) (by omega) hW hR hρ hlw hdn hlt hab (fun l_31  M32 q33 xv_M32 => ?_) _ nz30 M27 rfl q28 (by omega) (by intro j hj; exact hmid j (by omega))
    refine rr_vret pf_98_144 pt_98 ⟨rfl, M32, rfl, q33, (xv_M32)⟩
theorem lp_Runner_runClause_221 {xs : Nat → Int} {L d : Nat} {sh : List (Nat × Nat)} (hd : 9 ≤ d) (hW : px_W0 <+: sh) {M0 : Nat → Nat → Int}  {ρ0 : Nat → Int} {ρ : Nat → Int} (hR : rc M0 3 = ρ) (hρ : sp_ok ρ) {lw : List sp_C} (hlw : px_lw sh M0 3 lw) {tl : sp_T} (hctl : ctlR M0 27 tl) {dn lt : Int} {n : Nat} (hI : odI ρ0 n (ρ, tl, dn, lt)) (hn : n ≤ 960) (hdn0 : M0 98 7 = dn) (hlt0 : M0 98 8 = lt) (hst0 : M0 98 0 = -1) {c : Nat} (hc12 : c < 12) {x : od_C} (hA : coA (M0 202) (M0 203)) {ab : Int} (hab : M0 201 5 = ab) (hab01 : ab = 0 ∨ ab = 1) (hx : co_cl (M0 202) (M0 203) (M0 204) ab c x) {y : od_S} {t : Nat} {kd : Int} (hkd : kd = x.1) (ht : t < x.2.1) (hIy : odI ρ0 (n + t) y) (hE : od_n lw x x.2.1 (ρ, tl, dn, lt) = od_n lw x (x.2.1 - t) y) {Q : Option Value → px_H → Prop} (kx : ∀ (R : Nat → Int) (tv : Int) (v5 : Value) (v6 : Value) (M : Nat → Nat → Int), px_qk sh rnA M0 M → (fk 98 [0, 7, 8] M0 M) → (∃ y, (M 98 0 = -1 ∧ (rc M 3 = y.1 ∧ ctlR M 27 y.2.1 ∧ M 98 7 = y.2.2.1 ∧ M 98 8 = y.2.2.2 ∧ odI ρ0 (n + (t + 1)) y) ∧ od_n lw x x.2.1 (ρ, tl, dn, lt) = od_n lw x (x.2.1 - (t + 1)) y) ∨ (M 98 0 = ((c : Nat) : Int) ∧ od_n lw x x.2.1 (ρ, tl, dn, lt) = none)) → px_R xs L d 96 (269, [.ref 98, .ref 201, .int (iI (((c : Nat) : Int))), .int (iI (kd)), .int (iI (((t : Nat) : Int))), v5, v6, .int (iI (tv))], [], (sh, M)) Q)  : ∀ (mz : Nat) (R : Nat → Int) (tv : Int) (v5 : Value) (v6 : Value) (M : Nat → Nat → Int), 0 = mz → px_qk sh rnA M0 M → (fk 98 [0, 7, 8] M0 M) → (-3 ≤ tv ∧ tv ≤ 1000) → (od_1 lw x y = if tv < 0 then none else some (R, tpush y.2.1 (x.1, y.1), y.2.2.1 + 1, if x.1 = 0 then tv else y.2.2.2)) → (rc M 3 = R) → (ctlP M 27 y.2.1 y.1) → (M 98 0 = -1) → (M 98 7 = y.2.2.1) → (M 98 8 = y.2.2.2) → px_R xs L d 96 (221, [.ref 98, .ref 201, .int (iI (((c : Nat) : Int))), .int (iI (kd)), .int (iI (((t : Nat) : Int))), v5, v6, .int (iI (tv))], [], (sh, M)) Q := by
  intro mz
  induction mz using Nat.strongRecOn with
  | _ mz ih =>
    intro R tv v5 v6 M hm hq hrq htv hO hrw hP g0 g7 g8
    have hx1 := hx.1
    have hd4 := hIy.2.2.2.1
    have hx20 := hx.2.2.2.1
    have hl5 := hIy.2.2.2.2
    refine rr_iload pf_96_221 rfl ?_
    refine rr_if_ge 234 pf_96_223 (by decide) (by unfold rg; omega) (fun c1 => ?_) (fun c1 => ?_)
    · refine rr_aload_n pf_96_234 rfl ?_
      refine rr_getR pf_96_235 po_96 pg_4_43 rfl (ws_98 hW) (by decide) (wr_98_2 hq.1) ?_
      refine rr_iload_n pf_96_238 rfl ?_
      obtain ⟨M2, ⟨kq3, e2M2, efM2, ezM2⟩, hcM2⟩ := ct_Trail_keep (xs := xs) (L := L) (d := d) (tb := 27) (kd := kd) (by omega) hW hq.1 hq.2.1 px_tr27 hP.1.1 (by unfold rg; omega)
      have hTM2 : ctlR M2 27 (tpush y.2.1 (x.1, y.1)) := ctl_push hP (fun a h1 h2 => kq3.2.2 a (fun z => by
        simp only [List.mem_cons, List.not_mem_nil, or_false] at z
        omega)) (by rw [← hkd]; exact e2M2) efM2 ezM2
      have q3 := qk_trm hq kq3 (by decide +kernel)
      have rq4 := fk_q hrq kq3 (by decide)
      refine rr_cV1 pf_96_239 po_96 pc_4_106 (ws_27 hW) po_107 (by decide) rfl hcM2 ?_
      refine rr_aload_n pf_96_242 rfl ?_
      refine rr_dup pf_96_243 rfl ?_
      refine vr_getI q3 pf_96_244 po_96 pg_4_33 rfl (ws_98 hW) (by decide) (fun x5 hx5 rx5 => ?_)
      rw [kq3.2.2 98 (by decide), g7] at hx5
      refine rr_iconst pf_96_247 ?_
      refine rr_iadd pf_96_248 ?_
      refine vr_putI hW q3 pf_96_249 po_96 pg_4_33 (Or.inl rfl) rfl (ws_98 hW) (by decide) (by unfold rg; omega) (by decide +kernel) (fun M6 eM6 q7 => ?_)
      have rq8 := fk_up rq4 eM6 (by decide)
      refine rr_aload_n pf_96_252 rfl ?_
      refine rr_iload_n pf_96_253 rfl ?_
      refine rr_if_ne 262 pf_96_254 (by decide) (by unfold rg; omega) (fun c9 => ?_) (fun c9 => ?_)
      · refine rr_aload_n pf_96_262 rfl ?_
        refine vr_getI q7 pf_96_263 po_96 pg_4_36 rfl (ws_98 hW) (by decide) (fun x10 hx10 rx10 => ?_)
        rw [eM6, up_ne (by decide), kq3.2.2 98 (by decide), g8] at hx10
        refine vr_putI hW q7 pf_96_266 po_96 pg_4_36 (Or.inl rfl) rfl (ws_98 hW) (by decide) rx10 (by decide +kernel) (fun M11 eM11 q12 => ?_)
        have rq13 := fk_up rq8 eM11 (by decide)
        exact kx R tv _ _ M11 q12 (rq13) (by
                      rw [if_neg (by omega)] at hO
                      refine ⟨(R, tpush y.2.1 (x.1, y.1), y.2.2.1 + 1, if x.1 = 0 then tv else y.2.2.2), Or.inl ⟨?_, ⟨?_, ?_, ?_, ?_, ?_⟩, ?_⟩⟩
                      · rw [eM11, up_ne (by decide), eM6, up_ne (by decide), kq3.2.2 98 (by decide)]; exact g0
                      · exact (rc_eo (A := [98, 27, 29]) (fun a ha => by rw [eM11, ask_ne (fun z => ha (by rw [z]; decide)), eM6, ask_ne (fun z => ha (by rw [z]; decide))]; exact kq3.2.2 a (fun z => ha (by simp only [List.mem_cons, List.not_mem_nil, or_false] at z ⊢; omega))) (by decide)).trans hrw
                      · refine ctl_eq hTM2 (fun a h1 h2 => by rw [eM11, ask_ne (by omega), eM6, ask_ne (by omega)])
                      · rw [eM11, up_ne (by decide), eM6, up_s]; show _ = y.2.2.1 + 1; omega
                      · rw [eM11, up_s]; show _ = (if x.1 = 0 then tv else y.2.2.2)
                        rw [if_neg (by omega)]; omega
                      · exact odI_1 hx.1 hIy hO
                      · rw [hE, show x.2.1 - t = (x.2.1 - (t + 1)) + 1 by omega, od_n, hO])
      · refine rr_iload pf_96_257 rfl ?_
        refine rr_goto 266 pf_96_259 (by decide) ?_
        refine vr_putI hW q7 pf_96_266 po_96 pg_4_36 (Or.inl rfl) rfl (ws_98 hW) (by decide) (by unfold rg; omega) (by decide +kernel) (fun M14 eM14 q15 => ?_)
        have rq16 := fk_up rq8 eM14 (by decide)
        exact kx R tv _ _ M14 q15 (rq16) (by
                      rw [if_neg (by omega)] at hO
                      refine ⟨(R, tpush y.2.1 (x.1, y.1), y.2.2.1 + 1, if x.1 = 0 then tv else y.2.2.2), Or.inl ⟨?_, ⟨?_, ?_, ?_, ?_, ?_⟩, ?_⟩⟩
                      · rw [eM14, up_ne (by decide), eM6, up_ne (by decide), kq3.2.2 98 (by decide)]; exact g0
                      · exact (rc_eo (A := [98, 27, 29]) (fun a ha => by rw [eM14, ask_ne (fun z => ha (by rw [z]; decide)), eM6, ask_ne (fun z => ha (by rw [z]; decide))]; exact kq3.2.2 a (fun z => ha (by simp only [List.mem_cons, List.not_mem_nil, or_false] at z ⊢; omega))) (by decide)).trans hrw
                      · refine ctl_eq hTM2 (fun a h1 h2 => by rw [eM14, ask_ne (by omega), eM6, ask_ne (by omega)])
                      · rw [eM14, up_ne (by decide), eM6, up_s]; show _ = y.2.2.1 + 1; omega
                      · rw [eM14, up_s]; show _ = (if x.1 = 0 then tv else y.2.2.2)
                        rw [if_pos (by omega)]
                      · exact odI_1 hx.1 hIy hO
                      · rw [hE, show x.2.1 - t = (x.2.1 - (t + 1)) + 1 by omega, od_n, hO])
    · refine rr_aload_n pf_96_226 rfl ?_
      refine rr_iload_n pf_96_227 rfl ?_
      refine vr_putI hW hq pf_96_228 po_96 pg_4_9 (Or.inl rfl) rfl (ws_98 hW) (by decide) (by unfold rg; omega) (by decide +kernel) (fun M17 eM17 q18 => ?_)
      have rq19 := fk_up hrq eM17 (by decide)
      refine rr_goto 269 pf_96_231 (by decide) ?_
      exact kx R tv _ _ M17 q18 (rq19) (by
                  rw [if_pos (by omega)] at hO
                  refine ⟨y, Or.inr ⟨by rw [eM17, up_s], ?_⟩⟩
                  rw [hE, show x.2.1 - t = (x.2.1 - (t + 1)) + 1 by omega, od_n, hO])
theorem lp_Runner_runClause_9 {xs : Nat → Int} {L d : Nat} {sh : List (Nat × Nat)} (hd : 9 ≤ d) (hW : px_W0 <+: sh) {M0 : Nat → Nat → Int}  {ρ0 : Nat → Int} {ρ : Nat → Int} (hR : rc M0 3 = ρ) (hρ : sp_ok ρ) {lw : List sp_C} (hlw : px_lw sh M0 3 lw) {tl : sp_T} (hctl : ctlR M0 27 tl) {dn lt : Int} {n : Nat} (hI : odI ρ0 n (ρ, tl, dn, lt)) (hn : n ≤ 960) (hdn0 : M0 98 7 = dn) (hlt0 : M0 98 8 = lt) (hst0 : M0 98 0 = -1) {c : Nat} (hc12 : c < 12) {x : od_C} (hA : coA (M0 202) (M0 203)) {ab : Int} (hab : M0 201 5 = ab) (hab01 : ab = 0 ∨ ab = 1) (hx : co_cl (M0 202) (M0 203) (M0 204) ab c x) {kd : Int} (hkd : kd = x.1) {Q : Option Value → px_H → Prop} (kx : ∀ (t : Nat) (y : od_S) (v5 : Value) (v6 : Value) (v7 : Value) (M : Nat → Nat → Int), px_qk sh rnA M0 M → (fk 98 [0, 7, 8] M0 M) → ((M 98 0 = -1 ∧ (rc M 3 = y.1 ∧ ctlR M 27 y.2.1 ∧ M 98 7 = y.2.2.1 ∧ M 98 8 = y.2.2.2 ∧ odI ρ0 (n + 20) y) ∧ od_n lw x x.2.1 (ρ, tl, dn, lt) = some y) ∨ (M 98 0 = ((c : Nat) : Int) ∧ od_n lw x x.2.1 (ρ, tl, dn, lt) = none)) → px_R xs L d 96 (275, [.ref 98, .ref 201, .int (iI (((c : Nat) : Int))), .int (iI (kd)), .int (iI (((t : Nat) : Int))), v5, v6, v7], [], (sh, M)) Q)  : ∀ (mz : Nat) (t : Nat) (y : od_S) (v5 : Value) (v6 : Value) (v7 : Value) (M : Nat → Nat → Int), x.2.1 - t = mz → px_qk sh rnA M0 M → (fk 98 [0, 7, 8] M0 M) → (t ≤ x.2.1) → ((M 98 0 = -1 ∧ (rc M 3 = y.1 ∧ ctlR M 27 y.2.1 ∧ M 98 7 = y.2.2.1 ∧ M 98 8 = y.2.2.2 ∧ odI ρ0 (n + t) y) ∧ od_n lw x x.2.1 (ρ, tl, dn, lt) = od_n lw x (x.2.1 - t) y) ∨ (M 98 0 = ((c : Nat) : Int) ∧ od_n lw x x.2.1 (ρ, tl, dn, lt) = none)) → px_R xs L d 96 (9, [.ref 98, .ref 201, .int (iI (((c : Nat) : Int))), .int (iI (kd)), .int (iI (((t : Nat) : Int))), v5, v6, v7], [], (sh, M)) Q := by
  intro mz
  induction mz using Nat.strongRecOn with
  | _ mz ih =>
    intro t y v5 v6 v7 M hm hq hrq ht hJ
    have hx1 := hx.1
    have hx20 := hx.2.2.2.1
    refine rr_iload pf_96_9 rfl ?_
    refine rr_aload_n pf_96_11 rfl ?_
    refine rr_iload_n pf_96_12 rfl ?_
    have hz1 := ct_Text_oftenOf (xs := xs) (L := L) (d := d) (t := 201) (N := 400) (C := 12) (c := c) (by omega) hW hq.1 hq.2.1 (tx201 hW hq.1) hc12
    rw [show M (201 + 3) (c * 8 + 1) = ((x.2.1 : Nat) : Int) from (congrFun (hq.2.2 204 (by decide +kernel)) _).trans hx.2.2.1] at hz1
    refine rr_cV1 pf_96_13 po_96 pc_4_68 (ws_201 hW) po_97 (by decide) rfl hz1 ?_
    refine rr_icmp_ge 275 pf_96_16 (by decide) (by unfold rg; omega) (by unfold rg; omega) (fun c2 => ?_) (fun c2 => ?_)
    · exact kx t y _ _ _ M hq (hrq) (by
                  rcases hJ with ⟨z1, z2, z3⟩ | z
                  · left; refine ⟨z1, ⟨z2.1, z2.2.1, z2.2.2.1, z2.2.2.2.1, ?_⟩, ?_⟩
                    · obtain ⟨y1, y2, y3, y4, y5⟩ := z2.2.2.2.2; exact ⟨y1, y2, y3, ⟨y4.1, by omega⟩, y5⟩
                    · rw [z3, show x.2.1 - t = 0 by omega]; rfl
                  · exact Or.inr z)
    · refine rr_aload_n pf_96_19 rfl ?_
      refine vr_getI hq pf_96_20 po_96 pg_4_9 rfl (ws_98 hW) (by decide) (fun x3 hx3 rx3 => ?_)
      refine rr_iconst pf_96_23 ?_
      refine rr_icmp_ne 275 pf_96_24 (by decide) rx3 (by unfold rg; omega) (fun c4 => ?_) (fun c4 => ?_)
      · exact kx t y _ _ _ M hq (hrq) (by
                      rcases hJ with ⟨z1, _⟩ | z
                      · exfalso; omega
                      · exact Or.inr z)
      · obtain ⟨h0, ⟨hrow, hctlM, h7, h8, hIy⟩, hEq⟩ := hJ.resolve_right (fun z => by have := z.1; omega)
        have hok := hIy.1
        have hbd : od_bnd (od_env lw y.1 y.2.2.1 y.2.2.2) := od_env_b (lw := lw) hok (by have := hIy.2.2.2.1; omega) hIy.2.2.2.2
        refine rr_aload_n pf_96_27 rfl ?_
        refine rr_aload_n pf_96_28 rfl ?_
        refine vr_getZ hq pf_96_29 po_96 pg_4_71 rfl (ws_201 hW) (by decide) (fun x5 hx5 rx5 => ?_)
        rw [hq.2.2 201 (by decide)] at hx5
        rw [hab] at hx5
        obtain ⟨M6, ⟨kq7, pvM6⟩, hcM6⟩ := ct_Runner_fillValues (xs := xs) (L := L) (d := d) (ρ := y.1) (lw := lw) (dn := y.2.2.1) (lt := y.2.2.2) (ab := ab) (by omega) hW hq.1 hq.2.1 hrow hok (lw_eo hlw hq.2.2 (by decide +kernel) (by decide +kernel) (by decide +kernel)) h7 h8 hab01
        rw [show ab = x5 by omega] at hcM6
        have q7 := qk_trm hq kq7 (by decide +kernel)
        have rq8 := fk_q hrq kq7 (by decide)
        have hctl1 := ctl_eq hctlM (M2 := M6) (fun a h1 h2 => kq7.2.2 a (fun z => by
          simp only [List.mem_cons, List.not_mem_nil, or_false] at z
          omega))
        have hrow1 : rc M6 3 = y.1 := ((rc_eo kq7.2.2 (by decide)).trans hrow)
        have g98 : M6 98 = M 98 := kq7.2.2 98 (by decide)
        refine rr_cV1 pf_96_32 po_96 pc_4_75 (ws_98 hW) po_98 (by decide) rfl hcM6 ?_
        refine rr_aload_n pf_96_35 rfl ?_
        refine rr_getR pf_96_36 po_96 pg_4_46 rfl (ws_98 hW) (by decide) (wr_98_3 q7.1) ?_
        refine rr_aload_n pf_96_39 rfl ?_
        refine rr_iload_n pf_96_40 rfl ?_
        refine rr_bipush pf_96_41 (by decide) ?_
        refine rr_aload_n pf_96_43 rfl ?_
        refine rr_getR pf_96_44 po_96 pg_4_29 rfl (ws_98 hW) (by decide) (wr_98_6 q7.1) ?_
        obtain ⟨r0, M9, ⟨kq10, wrr0⟩, hcM9⟩ := co_worth (xs := xs) (L := L) (d := d) (ab := ab) (cl := c) (pt := 6) (f := x.2.2.1) (df := 1) (v := (od_env lw y.1 y.2.2.1 y.2.2.2)) (by omega) hW q7.1 q7.2.1 (by omega) (by rw [q7.2.2 202 (by decide +kernel), q7.2.2 203 (by decide +kernel), q7.2.2 204 (by decide +kernel)]; exact hx.2.2.2.2.1) (by rw [q7.2.2 202 (by decide +kernel), q7.2.2 203 (by decide +kernel)]; exact hA) hc12 (by decide) hbd pvM6
        rw [q7.2.2 204 (by decide +kernel)] at wrr0
        have hrgr0 : rg r0 := by
          unfold rg; rcases wrr0 with ⟨_, z⟩ | ⟨_, _, _, z, _⟩ <;> omega
        have q10 := qk_trm q7 kq10 (by decide +kernel)
        have rq11 := fk_q rq8 kq10 (by decide)
        have pv12 : ∀ j, j < 59 → M9 174 j = vz ab (od_env lw y.1 y.2.2.1 y.2.2.2) j := by rw [kq10.2.2 174 (by decide)]; exact pvM6
        have hr13 : rc M9 3 = y.1 := (rc_eo kq10.2.2 (by decide)).trans hrow1
        have ht14 := ctl_eq hctl1 (M2 := M9) (fun a h1 h2 => kq10.2.2 a (fun z => by
          simp only [List.mem_cons, List.not_mem_nil, or_false] at z
          omega))
        have g15 : M9 98 = M 98 := (kq10.2.2 98 (by decide)).trans g98
        refine rr_cV4 pf_96_47 po_96 pc_4_79 (ws_1 hW) po_25 (by decide) rfl hcM9 ?_
        refine rr_iconst pf_96_50 ?_
        refine rr_icmp_eq 57 pf_96_51 (by decide) hrgr0 (by unfold rg; omega) (fun c16 => ?_) (fun c16 => ?_)
        · have ht1 : x.2.2.1 (od_env lw y.1 y.2.2.1 y.2.2.2) = some 1 := by
            rcases wrr0 with ⟨_, z⟩ | ⟨y9, z1, _, _, z4, z5⟩
            · exfalso; omega
            · by_cases hne : M0 204 (c * 8 + 6) < M0 204 (c * 8 + 6 + 1)
              · rw [z1, ← z4 hne]; congr 1
              · rw [z1, (z5 hne).1]
          refine rr_aload_n pf_96_57 rfl ?_
          refine rr_getR pf_96_58 po_96 pg_4_46 rfl (ws_98 hW) (by decide) (wr_98_3 q10.1) ?_
          refine rr_aload_n pf_96_61 rfl ?_
          refine rr_iload_n pf_96_62 rfl ?_
          refine rr_iconst pf_96_63 ?_
          refine rr_aload_n pf_96_64 rfl ?_
          refine rr_getR pf_96_65 po_96 pg_4_29 rfl (ws_98 hW) (by decide) (wr_98_6 q10.1) ?_
          obtain ⟨r1, M17, ⟨kq18, wrr1⟩, hcM17⟩ := co_worth (xs := xs) (L := L) (d := d) (ab := ab) (cl := c) (pt := 2) (f := x.2.2.2.1) (df := (-1)) (v := (od_env lw y.1 y.2.2.1 y.2.2.2)) (by omega) hW q10.1 q10.2.1 (by omega) (by rw [q10.2.2 202 (by decide +kernel), q10.2.2 203 (by decide +kernel), q10.2.2 204 (by decide +kernel)]; exact hx.2.2.2.2.2.1) (by rw [q10.2.2 202 (by decide +kernel), q10.2.2 203 (by decide +kernel)]; exact hA) hc12 (by decide) hbd pv12
          rw [q10.2.2 204 (by decide +kernel)] at wrr1
          have hrgr1 : rg r1 := by
            unfold rg; rcases wrr1 with ⟨_, z⟩ | ⟨_, _, _, z, _⟩ <;> omega
          have q18 := qk_trm q10 kq18 (by decide +kernel)
          have rq19 := fk_q rq11 kq18 (by decide)
          have pv20 : ∀ j, j < 59 → M17 174 j = vz ab (od_env lw y.1 y.2.2.1 y.2.2.2) j := by rw [kq18.2.2 174 (by decide)]; exact pv12
          have hr21 : rc M17 3 = y.1 := (rc_eo kq18.2.2 (by decide)).trans hr13
          have ht22 := ctl_eq ht14 (M2 := M17) (fun a h1 h2 => kq18.2.2 a (fun z => by
            simp only [List.mem_cons, List.not_mem_nil, or_false] at z
            omega))
          have g23 : M17 98 = M 98 := (kq18.2.2 98 (by decide)).trans g15
          refine rr_cV4 pf_96_68 po_96 pc_4_79 (ws_1 hW) po_25 (by decide) rfl hcM17 ?_
          refine rr_istore pf_96_71 (fun y => [.ref 98, .ref 201, .int (iI (((c : Nat) : Int))), .int (iI (kd)), .int (iI (((t : Nat) : Int))), .int (iI (y)), v6, v7]) (Nat.le_of_ble_eq_true rfl) (fun _ => rfl) (fun y24 hy24 => ?_)
          have ry24 : rg y24 := hy24 ▸ hrgr1
          refine rr_aload_n pf_96_73 rfl ?_
          refine rr_getR pf_96_74 po_96 pg_4_46 rfl (ws_98 hW) (by decide) (wr_98_3 q18.1) ?_
          refine rr_aload_n pf_96_77 rfl ?_
          refine rr_iload_n pf_96_78 rfl ?_
          refine rr_iconst pf_96_79 ?_
          refine rr_aload_n pf_96_80 rfl ?_
          refine rr_getR pf_96_81 po_96 pg_4_29 rfl (ws_98 hW) (by decide) (wr_98_6 q18.1) ?_
          obtain ⟨r2, M25, ⟨kq26, wrr2⟩, hcM25⟩ := co_worth (xs := xs) (L := L) (d := d) (ab := ab) (cl := c) (pt := 4) (f := x.2.2.2.2) (df := (-1)) (v := (od_env lw y.1 y.2.2.1 y.2.2.2)) (by omega) hW q18.1 q18.2.1 (by omega) (by rw [q18.2.2 202 (by decide +kernel), q18.2.2 203 (by decide +kernel), q18.2.2 204 (by decide +kernel)]; exact hx.2.2.2.2.2.2.1) (by rw [q18.2.2 202 (by decide +kernel), q18.2.2 203 (by decide +kernel)]; exact hA) hc12 (by decide) hbd pv20
          rw [q18.2.2 204 (by decide +kernel)] at wrr2
          have hrgr2 : rg r2 := by
            unfold rg; rcases wrr2 with ⟨_, z⟩ | ⟨_, _, _, z, _⟩ <;> omega
          have q26 := qk_trm q18 kq26 (by decide +kernel)
          have rq27 := fk_q rq19 kq26 (by decide)
          have pv28 : ∀ j, j < 59 → M25 174 j = vz ab (od_env lw y.1 y.2.2.1 y.2.2.2) j := by rw [kq26.2.2 174 (by decide)]; exact pv20
          have hr29 : rc M25 3 = y.1 := (rc_eo kq26.2.2 (by decide)).trans hr21
          have ht30 := ctl_eq ht22 (M2 := M25) (fun a h1 h2 => kq26.2.2 a (fun z => by
            simp only [List.mem_cons, List.not_mem_nil, or_false] at z
            omega))
          have g31 : M25 98 = M 98 := (kq26.2.2 98 (by decide)).trans g23
          refine rr_cV4 pf_96_84 po_96 pc_4_79 (ws_1 hW) po_25 (by decide) rfl hcM25 ?_
          refine rr_istore pf_96_87 (fun y => [.ref 98, .ref 201, .int (iI (((c : Nat) : Int))), .int (iI (kd)), .int (iI (((t : Nat) : Int))), .int (iI (y24)), .int (iI (y)), v7]) (Nat.le_of_ble_eq_true rfl) (fun _ => rfl) (fun y32 hy32 => ?_)
          have ry32 : rg y32 := hy32 ▸ hrgr2
          refine rr_aload_n pf_96_89 rfl ?_
          refine rr_getR pf_96_90 po_96 pg_4_43 rfl (ws_98 hW) (by decide) (wr_98_2 q26.1) ?_
          refine rr_aload_n pf_96_93 rfl ?_
          refine rr_getR pf_96_94 po_96 pg_4_39 rfl (ws_98 hW) (by decide) (wr_98_1 q26.1) ?_
          refine rr_getR pf_96_97 po_96 pg_4_50 rfl (ws_3 hW) (by decide) (wr_3_0 q26.1) ?_
          obtain ⟨M33, ⟨kq34, pnM33⟩, hcM33⟩ := ct_Trail_hold (xs := xs) (L := L) (d := d) (tb := 27) (nb := 4) (by omega) hW q26.1 q26.2.1 px_tr27 ht30.1 (show px_nv 4 by unfold px_nv; decide) (by omega)
          have hP0 := ctl_hold ht30 kq34 pnM33
          have kk : px_qk sh (px_trA 27) M25 M33 := qk_mo kq34 (nv_27 (sl_lt _))
          have hP : ctlP M33 27 y.2.1 y.1 := ⟨hP0.1, fun j hj => (hP0.2 j hj).trans ((nn_rc (M := M25) (cb := 3) hj).symm.trans (congrFun hr29 j))⟩
          have er : rc M33 3 = y.1 := (rc_eo kk.2.2 (fun a ha => by have := trA_iff.mp ha; omega)).trans hr29
          have g98h : M33 98 = M 98 := (kk.2.2 98 (by decide +kernel)).trans g31
          have q34 := qk_trm q26 kk (by decide +kernel)
          have rq35 := fk_q rq27 kk (by decide +kernel)
          have hlwh : px_lw sh M33 3 lw := lw_eo hlw q34.2.2 (by decide +kernel) (by decide +kernel) (by decide +kernel)
          have hokh : sp_ok (rc M33 3) := by rw [er]; exact hok
          refine rr_cV1 pf_96_100 po_96 pc_4_85 (ws_27 hW) po_100 (by decide) rfl hcM33 ?_
          refine rr_bipush pf_96_103 (by decide) ?_
          refine rr_istore pf_96_105 (fun y => [.ref 98, .ref 201, .int (iI (((c : Nat) : Int))), .int (iI (kd)), .int (iI (((t : Nat) : Int))), .int (iI (y24)), .int (iI (y32)), .int (iI (y))]) (Nat.le_of_ble_eq_true rfl) (fun _ => rfl) (fun y36 hy36 => ?_)
          refine rr_iload pf_96_107 rfl ?_
          refine rr_ldc pf_96_109 po_96 pk_4_88 ?_
          refine rr_icmp_eq 221 pf_96_111 (by decide) ry24 (by unfold rg; omega) (fun c37 => ?_) (fun c37 => ?_)
          · refine lp_Runner_runClause_221 (xs := xs) (L := L) (d := d) (by omega) hW hR hρ hlw hctl hI hn hdn0 hlt0 hst0 hc12 hA hab hab01 hx (by omega) (by omega) hIy hEq (fun R_38 tv_39 v42 v43 M40 q41 xrq_M40 xI_M40 => ?_) _ (y.1) y36 _ _ M33 rfl q34 (rq35) (by omega) (by
                              rw [show (y36 : Int) = -3 by omega, if_pos (by decide)]; unfold od_1; rw [if_pos ht1]; rcases wrr1 with ⟨z, _⟩ | ⟨_, _, _, z, _⟩
                              · rw [z]
                              · exfalso; omega) (er) (hP) (by rw [g98h]; exact h0) (by rw [g98h]; exact h7) (by rw [g98h]; exact h8)
            obtain ⟨y2, hy2⟩ := xI_M40
            refine rr_iinc pf_96_269 rfl (fun y => [.ref 98, .ref 201, .int (iI (((c : Nat) : Int))), .int (iI (kd)), .int (iI (y)), v42, v43, .int (iI (tv_39))]) (fun _ => rfl) (fun y44 hy44 => ?_)
            refine rr_goto 9 pf_96_272 (by decide) ?_
            obtain ⟨nz45, hnz45, rfl⟩ : ∃ zz : Nat, zz = 1 + t ∧ y44 = ((zz : Nat) : Int) := ⟨1 + t, rfl, by omega⟩
            exact ih _ (by omega) nz45 y2 _ _ _ M40 rfl q41 (xrq_M40) (by omega) (by rw [show nz45 = t + 1 by omega]; exact hy2)
          · refine rr_iload pf_96_114 rfl ?_
            refine rr_ldc pf_96_116 po_96 pk_4_88 ?_
            refine rr_icmp_eq 221 pf_96_118 (by decide) ry32 (by unfold rg; omega) (fun c46 => ?_) (fun c46 => ?_)
            · refine lp_Runner_runClause_221 (xs := xs) (L := L) (d := d) (by omega) hW hR hρ hlw hctl hI hn hdn0 hlt0 hst0 hc12 hA hab hab01 hx (by omega) (by omega) hIy hEq (fun R_47 tv_48 v51 v52 M49 q50 xrq_M49 xI_M49 => ?_) _ (y.1) y36 _ _ M33 rfl q34 (rq35) (by omega) (by
                                  rw [show (y36 : Int) = -3 by omega, if_pos (by decide)]; unfold od_1; rw [if_pos ht1]; rcases wrr2 with ⟨z, _⟩ | ⟨_, _, _, z, _⟩
                                  · rw [z]; split <;> first | rfl | (rename_i h1 h2; cases h2)
                                  · exfalso; omega) (er) (hP) (by rw [g98h]; exact h0) (by rw [g98h]; exact h7) (by rw [g98h]; exact h8)
              obtain ⟨y2, hy2⟩ := xI_M49
              refine rr_iinc pf_96_269 rfl (fun y => [.ref 98, .ref 201, .int (iI (((c : Nat) : Int))), .int (iI (kd)), .int (iI (y)), v51, v52, .int (iI (tv_48))]) (fun _ => rfl) (fun y53 hy53 => ?_)
              refine rr_goto 9 pf_96_272 (by decide) ?_
              obtain ⟨nz54, hnz54, rfl⟩ : ∃ zz : Nat, zz = 1 + t ∧ y53 = ((zz : Nat) : Int) := ⟨1 + t, rfl, by omega⟩
              exact ih _ (by omega) nz54 y2 _ _ _ M49 rfl q50 (xrq_M49) (by omega) (by rw [show nz54 = t + 1 by omega]; exact hy2)
            · refine rr_iload_n pf_96_121 rfl ?_
              rcases (show (kd < 0 ∨ 3 < kd) ∨ kd = 0 ∨ kd = 1 ∨ kd = 2 ∨ kd = 3 by omega) with hsw55 | hsw55 | hsw55 | hsw55 | hsw55
              · refine rr_tsw_out 212 pf_96_122 (by decide) (by unfold rg; omega) hsw55 ?_
                refine rr_aload_n pf_96_212 rfl ?_
                refine rr_getR pf_96_213 po_96 pg_4_39 rfl (ws_98 hW) (by decide) (wr_98_1 q34.1) ?_
                obtain ⟨M56, ⟨kq57, prM56⟩, hcM56⟩ := ct_Church_passHour (xs := xs) (L := L) (d := d) (cb := 3) (by omega) hW q34.1 q34.2.1 px_ch3 hokh hlwh 
                rw [er] at prM56 hcM56
                have hvb : -3 ≤ sp_pasV y.1 ∧ sp_pasV y.1 ≤ 1000 := pasV_b hok
                obtain ⟨vzz, hvz⟩ : ∃ z, z = sp_pasV y.1 := ⟨_, rfl⟩
                rw [← hvz] at hvb hcM56
                have q57 := qk_trm q34 kq57 (by decide +kernel)
                have hP2 : ctlP M56 27 y.2.1 y.1 := ctP_eq hP (fun a h1 h2 => kq57.2.2 a (fun z => by
                  simp only [List.mem_cons, List.not_mem_nil, or_false] at z
                  omega))
                have g98a : M56 98 = M 98 := (kq57.2.2 98 (by decide)).trans g98h
                have rq58 := fk_q rq35 kq57 (by decide)
                refine rr_cV0 pf_96_216 po_96 pc_4_102 (ws_3 hW) po_105 (by decide) rfl hcM56 ?_
                refine rr_istore pf_96_219 (fun y => [.ref 98, .ref 201, .int (iI (((c : Nat) : Int))), .int (iI (kd)), .int (iI (((t : Nat) : Int))), .int (iI (y24)), .int (iI (y32)), .int (iI (y))]) (Nat.le_of_ble_eq_true rfl) (fun _ => rfl) (fun y59 hy59 => ?_)
                refine lp_Runner_runClause_221 (xs := xs) (L := L) (d := d) (by omega) hW hR hρ hlw hctl hI hn hdn0 hlt0 hst0 hc12 hA hab hab01 hx (by omega) (by omega) hIy hEq (fun R_60 tv_61 v64 v65 M62 q63 xrq_M62 xI_M62 => ?_) _ (sp_pasW lw y.1) y59 _ _ M56 rfl q57 (rq58) (by omega) (by
                                      obtain ⟨a, ha, _, _, hae, _⟩ := wrr1.resolve_left (fun z => by have := z.2; omega)
                                      obtain ⟨b, hb, _, _, hbe, _⟩ := wrr2.resolve_left (fun z => by have := z.2; omega)
                                      have eV : od_V lw y.1 x.1 a b = y59 := by unfold od_V; rw [if_neg (by omega), if_neg (by omega), if_neg (by omega), if_neg (by omega)]; exact hvz.symm.trans hy59.symm
                                      have eR : od_R lw y.1 x.1 a b = sp_pasW lw y.1 := by unfold od_R; rw [if_neg (by omega), if_neg (by omega), if_neg (by omega), if_neg (by omega)]
                                      unfold od_1; rw [if_pos ht1, ha, hb]; show (if od_V lw y.1 x.1 a b < 0 then none else some (od_R lw y.1 x.1 a b, tpush y.2.1 (x.1, y.1), y.2.2.1 + 1, if x.1 = 0 then od_V lw y.1 x.1 a b else y.2.2.2)) = _; rw [eV, eR]) (prM56) (hP2) (by rw [g98a]; exact h0) (by rw [g98a]; exact h7) (by rw [g98a]; exact h8)
                obtain ⟨y2, hy2⟩ := xI_M62
                refine rr_iinc pf_96_269 rfl (fun y => [.ref 98, .ref 201, .int (iI (((c : Nat) : Int))), .int (iI (kd)), .int (iI (y)), v64, v65, .int (iI (tv_61))]) (fun _ => rfl) (fun y66 hy66 => ?_)
                refine rr_goto 9 pf_96_272 (by decide) ?_
                obtain ⟨nz67, hnz67, rfl⟩ : ∃ zz : Nat, zz = 1 + t ∧ y66 = ((zz : Nat) : Int) := ⟨1 + t, rfl, by omega⟩
                exact ih _ (by omega) nz67 y2 _ _ _ M62 rfl q63 (xrq_M62) (by omega) (by rw [show nz67 = t + 1 by omega]; exact hy2)
              · refine rr_tsw_in (off := 30) 152 pf_96_122 (by unfold rg; omega) (by omega) (by rw [hsw55]; rfl) (by decide) ?_
                refine rr_aload_n pf_96_152 rfl ?_
                refine rr_getR pf_96_153 po_96 pg_4_39 rfl (ws_98 hW) (by decide) (wr_98_1 q34.1) ?_
                refine rr_iload pf_96_156 rfl ?_
                obtain ⟨M68, ⟨kq69, prM68⟩, hcM68⟩ := ct_Church_preachWord (xs := xs) (L := L) (d := d) (cb := 3) (v := y24) (by omega) hW q34.1 q34.2.1 px_ch3 hokh hlwh ry24
                rw [er] at prM68 hcM68
                have hvb : -3 ≤ sp_preV lw y.1 y24 ∧ sp_preV lw y.1 y24 ≤ 1000 := preV_b hok _
                obtain ⟨vzz, hvz⟩ : ∃ z, z = sp_preV lw y.1 y24 := ⟨_, rfl⟩
                rw [← hvz] at hvb hcM68
                have q69 := qk_trm q34 kq69 (by decide +kernel)
                have hP2 : ctlP M68 27 y.2.1 y.1 := ctP_eq hP (fun a h1 h2 => kq69.2.2 a (fun z => by
                  simp only [List.mem_cons, List.not_mem_nil, or_false] at z
                  omega))
                have g98a : M68 98 = M 98 := (kq69.2.2 98 (by decide)).trans g98h
                have rq70 := fk_q rq35 kq69 (by decide)
                refine rr_cV1 pf_96_158 po_96 pc_4_89 (ws_3 hW) po_101 (by decide) rfl hcM68 ?_
                refine rr_istore pf_96_161 (fun y => [.ref 98, .ref 201, .int (iI (((c : Nat) : Int))), .int (iI (kd)), .int (iI (((t : Nat) : Int))), .int (iI (y24)), .int (iI (y32)), .int (iI (y))]) (Nat.le_of_ble_eq_true rfl) (fun _ => rfl) (fun y71 hy71 => ?_)
                refine rr_goto 221 pf_96_163 (by decide) ?_
                refine lp_Runner_runClause_221 (xs := xs) (L := L) (d := d) (by omega) hW hR hρ hlw hctl hI hn hdn0 hlt0 hst0 hc12 hA hab hab01 hx (by omega) (by omega) hIy hEq (fun R_72 tv_73 v76 v77 M74 q75 xrq_M74 xI_M74 => ?_) _ (sp_preW lw y.1 y24) y71 _ _ M68 rfl q69 (rq70) (by omega) (by
                                      obtain ⟨a, ha, _, _, hae, _⟩ := wrr1.resolve_left (fun z => by have := z.2; omega)
                                      obtain ⟨b, hb, _, _, hbe, _⟩ := wrr2.resolve_left (fun z => by have := z.2; omega)
                                      have hra := hae (hx.2.2.2.2.2.2.2.1 (by omega))
                                      have eV : od_V lw y.1 x.1 a b = y71 := by unfold od_V; rw [if_pos (by omega), ← hra, ← hy24]; exact hvz.symm.trans hy71.symm
                                      have eR : od_R lw y.1 x.1 a b = sp_preW lw y.1 y24 := by unfold od_R; rw [if_pos (by omega), ← hra, ← hy24]
                                      unfold od_1; rw [if_pos ht1, ha, hb]; show (if od_V lw y.1 x.1 a b < 0 then none else some (od_R lw y.1 x.1 a b, tpush y.2.1 (x.1, y.1), y.2.2.1 + 1, if x.1 = 0 then od_V lw y.1 x.1 a b else y.2.2.2)) = _; rw [eV, eR]) (prM68) (hP2) (by rw [g98a]; exact h0) (by rw [g98a]; exact h7) (by rw [g98a]; exact h8)
                obtain ⟨y2, hy2⟩ := xI_M74
                refine rr_iinc pf_96_269 rfl (fun y => [.ref 98, .ref 201, .int (iI (((c : Nat) : Int))), .int (iI (kd)), .int (iI (y)), v76, v77, .int (iI (tv_73))]) (fun _ => rfl) (fun y78 hy78 => ?_)
                refine rr_goto 9 pf_96_272 (by decide) ?_
                obtain ⟨nz79, hnz79, rfl⟩ : ∃ zz : Nat, zz = 1 + t ∧ y78 = ((zz : Nat) : Int) := ⟨1 + t, rfl, by omega⟩
                exact ih _ (by omega) nz79 y2 _ _ _ M74 rfl q75 (xrq_M74) (by omega) (by rw [show nz79 = t + 1 by omega]; exact hy2)
              · refine rr_tsw_in (off := 44) 166 pf_96_122 (by unfold rg; omega) (by omega) (by rw [hsw55]; rfl) (by decide) ?_
                refine rr_aload_n pf_96_166 rfl ?_
                refine rr_getR pf_96_167 po_96 pg_4_39 rfl (ws_98 hW) (by decide) (wr_98_1 q34.1) ?_
                refine rr_iload pf_96_170 rfl ?_
                refine rr_iload pf_96_172 rfl ?_
                obtain ⟨M80, ⟨kq81, prM80⟩, hcM80⟩ := ct_Church_scrapeOne (xs := xs) (L := L) (d := d) (cb := 3) (p := y24) (h := y32) (by omega) hW q34.1 q34.2.1 px_ch3 hokh ry24 ry32
                rw [er] at prM80 hcM80
                have hvb : -3 ≤ sp_scrV y.1 y24 y32 ∧ sp_scrV y.1 y24 y32 ≤ 1000 := scrV_b hok _ _
                obtain ⟨vzz, hvz⟩ : ∃ z, z = sp_scrV y.1 y24 y32 := ⟨_, rfl⟩
                rw [← hvz] at hvb hcM80
                have q81 := qk_trm q34 kq81 (by decide +kernel)
                have hP2 : ctlP M80 27 y.2.1 y.1 := ctP_eq hP (fun a h1 h2 => kq81.2.2 a (fun z => by
                  simp only [List.mem_cons, List.not_mem_nil, or_false] at z
                  omega))
                have g98a : M80 98 = M 98 := (kq81.2.2 98 (by decide)).trans g98h
                have rq82 := fk_q rq35 kq81 (by decide)
                refine rr_cV2 pf_96_174 po_96 pc_4_92 (ws_3 hW) po_102 (by decide) rfl hcM80 ?_
                refine rr_istore pf_96_177 (fun y => [.ref 98, .ref 201, .int (iI (((c : Nat) : Int))), .int (iI (kd)), .int (iI (((t : Nat) : Int))), .int (iI (y24)), .int (iI (y32)), .int (iI (y))]) (Nat.le_of_ble_eq_true rfl) (fun _ => rfl) (fun y83 hy83 => ?_)
                refine rr_goto 221 pf_96_179 (by decide) ?_
                refine lp_Runner_runClause_221 (xs := xs) (L := L) (d := d) (by omega) hW hR hρ hlw hctl hI hn hdn0 hlt0 hst0 hc12 hA hab hab01 hx (by omega) (by omega) hIy hEq (fun R_84 tv_85 v88 v89 M86 q87 xrq_M86 xI_M86 => ?_) _ (sp_scrR y.1 y24 y32) y83 _ _ M80 rfl q81 (rq82) (by omega) (by
                                      obtain ⟨a, ha, _, _, hae, _⟩ := wrr1.resolve_left (fun z => by have := z.2; omega)
                                      obtain ⟨b, hb, _, _, hbe, _⟩ := wrr2.resolve_left (fun z => by have := z.2; omega)
                                      have hra := hae (hx.2.2.2.2.2.2.2.1 (by omega))
                                      have hrb := hbe (hx.2.2.2.2.2.2.2.2 (by omega))
                                      have eV : od_V lw y.1 x.1 a b = y83 := by unfold od_V; rw [if_neg (by omega), if_pos (by omega), ← hra, ← hrb, ← hy24, ← hy32]; exact hvz.symm.trans hy83.symm
                                      have eR : od_R lw y.1 x.1 a b = sp_scrR y.1 y24 y32 := by unfold od_R; rw [if_neg (by omega), if_pos (by omega), ← hra, ← hrb, ← hy24, ← hy32]
                                      unfold od_1; rw [if_pos ht1, ha, hb]; show (if od_V lw y.1 x.1 a b < 0 then none else some (od_R lw y.1 x.1 a b, tpush y.2.1 (x.1, y.1), y.2.2.1 + 1, if x.1 = 0 then od_V lw y.1 x.1 a b else y.2.2.2)) = _; rw [eV, eR]) (prM80) (hP2) (by rw [g98a]; exact h0) (by rw [g98a]; exact h7) (by rw [g98a]; exact h8)
                obtain ⟨y2, hy2⟩ := xI_M86
                refine rr_iinc pf_96_269 rfl (fun y => [.ref 98, .ref 201, .int (iI (((c : Nat) : Int))), .int (iI (kd)), .int (iI (y)), v88, v89, .int (iI (tv_85))]) (fun _ => rfl) (fun y90 hy90 => ?_)
                refine rr_goto 9 pf_96_272 (by decide) ?_
                obtain ⟨nz91, hnz91, rfl⟩ : ∃ zz : Nat, zz = 1 + t ∧ y90 = ((zz : Nat) : Int) := ⟨1 + t, rfl, by omega⟩
                exact ih _ (by omega) nz91 y2 _ _ _ M86 rfl q87 (xrq_M86) (by omega) (by rw [show nz91 = t + 1 by omega]; exact hy2)
              · refine rr_tsw_in (off := 60) 182 pf_96_122 (by unfold rg; omega) (by omega) (by rw [hsw55]; rfl) (by decide) ?_
                refine rr_aload_n pf_96_182 rfl ?_
                refine rr_getR pf_96_183 po_96 pg_4_39 rfl (ws_98 hW) (by decide) (wr_98_1 q34.1) ?_
                refine rr_iload pf_96_186 rfl ?_
                obtain ⟨M92, ⟨kq93, prM92⟩, hcM92⟩ := ct_Church_walkTo (xs := xs) (L := L) (d := d) (cb := 3) (p := y24) (by omega) hW q34.1 q34.2.1 px_ch3 hokh ry24
                rw [er] at prM92 hcM92
                have hvb : -3 ≤ sp_walV y.1 y24 ∧ sp_walV y.1 y24 ≤ 1000 := walV_b hok _
                obtain ⟨vzz, hvz⟩ : ∃ z, z = sp_walV y.1 y24 := ⟨_, rfl⟩
                rw [← hvz] at hvb hcM92
                have q93 := qk_trm q34 kq93 (by decide +kernel)
                have hP2 : ctlP M92 27 y.2.1 y.1 := ctP_eq hP (fun a h1 h2 => kq93.2.2 a (fun z => by
                  simp only [List.mem_cons, List.not_mem_nil, or_false] at z
                  omega))
                have g98a : M92 98 = M 98 := (kq93.2.2 98 (by decide)).trans g98h
                have rq94 := fk_q rq35 kq93 (by decide)
                refine rr_cV1 pf_96_188 po_96 pc_4_96 (ws_3 hW) po_103 (by decide) rfl hcM92 ?_
                refine rr_istore pf_96_191 (fun y => [.ref 98, .ref 201, .int (iI (((c : Nat) : Int))), .int (iI (kd)), .int (iI (((t : Nat) : Int))), .int (iI (y24)), .int (iI (y32)), .int (iI (y))]) (Nat.le_of_ble_eq_true rfl) (fun _ => rfl) (fun y95 hy95 => ?_)
                refine rr_goto 221 pf_96_193 (by decide) ?_
                refine lp_Runner_runClause_221 (xs := xs) (L := L) (d := d) (by omega) hW hR hρ hlw hctl hI hn hdn0 hlt0 hst0 hc12 hA hab hab01 hx (by omega) (by omega) hIy hEq (fun R_96 tv_97 v100 v101 M98 q99 xrq_M98 xI_M98 => ?_) _ (sp_walR y.1 y24) y95 _ _ M92 rfl q93 (rq94) (by omega) (by
                                      obtain ⟨a, ha, _, _, hae, _⟩ := wrr1.resolve_left (fun z => by have := z.2; omega)
                                      obtain ⟨b, hb, _, _, hbe, _⟩ := wrr2.resolve_left (fun z => by have := z.2; omega)
                                      have hra := hae (hx.2.2.2.2.2.2.2.1 (by omega))
                                      have eV : od_V lw y.1 x.1 a b = y95 := by unfold od_V; rw [if_neg (by omega), if_neg (by omega), if_pos (by omega), ← hra, ← hy24]; exact hvz.symm.trans hy95.symm
                                      have eR : od_R lw y.1 x.1 a b = sp_walR y.1 y24 := by unfold od_R; rw [if_neg (by omega), if_neg (by omega), if_pos (by omega), ← hra, ← hy24]
                                      unfold od_1; rw [if_pos ht1, ha, hb]; show (if od_V lw y.1 x.1 a b < 0 then none else some (od_R lw y.1 x.1 a b, tpush y.2.1 (x.1, y.1), y.2.2.1 + 1, if x.1 = 0 then od_V lw y.1 x.1 a b else y.2.2.2)) = _; rw [eV, eR]) (prM92) (hP2) (by rw [g98a]; exact h0) (by rw [g98a]; exact h7) (by rw [g98a]; exact h8)
                obtain ⟨y2, hy2⟩ := xI_M98
                refine rr_iinc pf_96_269 rfl (fun y => [.ref 98, .ref 201, .int (iI (((c : Nat) : Int))), .int (iI (kd)), .int (iI (y)), v100, v101, .int (iI (tv_97))]) (fun _ => rfl) (fun y102 hy102 => ?_)
                refine rr_goto 9 pf_96_272 (by decide) ?_
                obtain ⟨nz103, hnz103, rfl⟩ : ∃ zz : Nat, zz = 1 + t ∧ y102 = ((zz : Nat) : Int) := ⟨1 + t, rfl, by omega⟩
                exact ih _ (by omega) nz103 y2 _ _ _ M98 rfl q99 (xrq_M98) (by omega) (by rw [show nz103 = t + 1 by omega]; exact hy2)
              · refine rr_tsw_in (off := 74) 196 pf_96_122 (by unfold rg; omega) (by omega) (by rw [hsw55]; rfl) (by decide) ?_
                refine rr_aload_n pf_96_196 rfl ?_
                refine rr_getR pf_96_197 po_96 pg_4_39 rfl (ws_98 hW) (by decide) (wr_98_1 q34.1) ?_
                refine rr_iload pf_96_200 rfl ?_
                refine rr_iload pf_96_202 rfl ?_
                obtain ⟨M104, ⟨kq105, prM104⟩, hcM104⟩ := ct_Church_seatAt (xs := xs) (L := L) (d := d) (cb := 3) (l := y24) (s := y32) (by omega) hW q34.1 q34.2.1 px_ch3 hokh ry24 ry32
                rw [er] at prM104 hcM104
                have hvb : -3 ≤ sp_sitV y.1 y24 y32 ∧ sp_sitV y.1 y24 y32 ≤ 1000 := sitV_b hok _ _
                obtain ⟨vzz, hvz⟩ : ∃ z, z = sp_sitV y.1 y24 y32 := ⟨_, rfl⟩
                rw [← hvz] at hvb hcM104
                have q105 := qk_trm q34 kq105 (by decide +kernel)
                have hP2 : ctlP M104 27 y.2.1 y.1 := ctP_eq hP (fun a h1 h2 => kq105.2.2 a (fun z => by
                  simp only [List.mem_cons, List.not_mem_nil, or_false] at z
                  omega))
                have g98a : M104 98 = M 98 := (kq105.2.2 98 (by decide)).trans g98h
                have rq106 := fk_q rq35 kq105 (by decide)
                refine rr_cV2 pf_96_204 po_96 pc_4_99 (ws_3 hW) po_104 (by decide) rfl hcM104 ?_
                refine rr_istore pf_96_207 (fun y => [.ref 98, .ref 201, .int (iI (((c : Nat) : Int))), .int (iI (kd)), .int (iI (((t : Nat) : Int))), .int (iI (y24)), .int (iI (y32)), .int (iI (y))]) (Nat.le_of_ble_eq_true rfl) (fun _ => rfl) (fun y107 hy107 => ?_)
                refine rr_goto 221 pf_96_209 (by decide) ?_
                refine lp_Runner_runClause_221 (xs := xs) (L := L) (d := d) (by omega) hW hR hρ hlw hctl hI hn hdn0 hlt0 hst0 hc12 hA hab hab01 hx (by omega) (by omega) hIy hEq (fun R_108 tv_109 v112 v113 M110 q111 xrq_M110 xI_M110 => ?_) _ (sp_sitR y.1 y24 y32) y107 _ _ M104 rfl q105 (rq106) (by omega) (by
                                      obtain ⟨a, ha, _, _, hae, _⟩ := wrr1.resolve_left (fun z => by have := z.2; omega)
                                      obtain ⟨b, hb, _, _, hbe, _⟩ := wrr2.resolve_left (fun z => by have := z.2; omega)
                                      have hra := hae (hx.2.2.2.2.2.2.2.1 (by omega))
                                      have hrb := hbe (hx.2.2.2.2.2.2.2.2 (by omega))
                                      have eV : od_V lw y.1 x.1 a b = y107 := by unfold od_V; rw [if_neg (by omega), if_neg (by omega), if_neg (by omega), if_pos (by omega), ← hra, ← hrb, ← hy24, ← hy32]; exact hvz.symm.trans hy107.symm
                                      have eR : od_R lw y.1 x.1 a b = sp_sitR y.1 y24 y32 := by unfold od_R; rw [if_neg (by omega), if_neg (by omega), if_neg (by omega), if_pos (by omega), ← hra, ← hrb, ← hy24, ← hy32]
                                      unfold od_1; rw [if_pos ht1, ha, hb]; show (if od_V lw y.1 x.1 a b < 0 then none else some (od_R lw y.1 x.1 a b, tpush y.2.1 (x.1, y.1), y.2.2.1 + 1, if x.1 = 0 then od_V lw y.1 x.1 a b else y.2.2.2)) = _; rw [eV, eR]) (prM104) (hP2) (by rw [g98a]; exact h0) (by rw [g98a]; exact h7) (by rw [g98a]; exact h8)
                obtain ⟨y2, hy2⟩ := xI_M110
                refine rr_iinc pf_96_269 rfl (fun y => [.ref 98, .ref 201, .int (iI (((c : Nat) : Int))), .int (iI (kd)), .int (iI (y)), v112, v113, .int (iI (tv_109))]) (fun _ => rfl) (fun y114 hy114 => ?_)
                refine rr_goto 9 pf_96_272 (by decide) ?_
                obtain ⟨nz115, hnz115, rfl⟩ : ∃ zz : Nat, zz = 1 + t ∧ y114 = ((zz : Nat) : Int) := ⟨1 + t, rfl, by omega⟩
                exact ih _ (by omega) nz115 y2 _ _ _ M110 rfl q111 (xrq_M110) (by omega) (by rw [show nz115 = t + 1 by omega]; exact hy2)
        · have ht0 : ¬ x.2.2.1 (od_env lw y.1 y.2.2.1 y.2.2.2) = some 1 := by
            intro hz
            rcases wrr0 with ⟨z, _⟩ | ⟨y9, z1, _, _, z4, z5⟩
            · rw [z] at hz; cases hz
            · by_cases hne : M0 204 (c * 8 + 6) < M0 204 (c * 8 + 6 + 1)
              · rw [z1] at hz; have := Option.some.inj hz; have := z4 hne; omega
              · have := (z5 hne).2; omega
          refine rr_goto 269 pf_96_54 (by decide) ?_
          refine rr_iinc pf_96_269 rfl (fun y => [.ref 98, .ref 201, .int (iI (((c : Nat) : Int))), .int (iI (kd)), .int (iI (y)), v5, v6, v7]) (fun _ => rfl) (fun y116 hy116 => ?_)
          refine rr_goto 9 pf_96_272 (by decide) ?_
          obtain ⟨nz117, hnz117, rfl⟩ : ∃ zz : Nat, zz = 1 + t ∧ y116 = ((zz : Nat) : Int) := ⟨1 + t, rfl, by omega⟩
          exact ih _ (by omega) nz117 y _ _ _ M9 rfl q10 (rq11) (by omega) (by
                          left; rw [show nz117 = t + 1 by omega]; refine ⟨by rw [g15]; exact h0, ⟨hr13, ht14, by rw [g15]; exact h7, by rw [g15]; exact h8, ?_⟩, ?_⟩
                          · obtain ⟨z1, z2, z3, z4, z5⟩ := hIy; exact ⟨z1, z2, z3, ⟨z4.1, by omega⟩, z5⟩
                          · rw [hEq, show x.2.1 - t = (x.2.1 - (t + 1)) + 1 by omega, od_n]; unfold od_1; rw [if_neg ht0])
theorem ct_Runner_runClause {xs : Nat → Int} {L d : Nat} {sh : List (Nat × Nat)} {M0 : Nat → Nat → Int} (hd : 10 ≤ d) (hW : px_W0 <+: sh) (hF : px_Fx M0) (hG : px_RG sh M0)  {ρ0 : Nat → Int} {ρ : Nat → Int} (hR : rc M0 3 = ρ) (hρ : sp_ok ρ) {lw : List sp_C} (hlw : px_lw sh M0 3 lw) {tl : sp_T} (hctl : ctlR M0 27 tl) {dn lt : Int} {n : Nat} (hI : odI ρ0 n (ρ, tl, dn, lt)) (hn : n ≤ 960) (hdn0 : M0 98 7 = dn) (hlt0 : M0 98 8 = lt) (hst0 : M0 98 0 = -1) {c : Nat} (hc12 : c < 12) {x : od_C} (hA : coA (M0 202) (M0 203)) {ab : Int} (hab : M0 201 5 = ab) (hab01 : ab = 0 ∨ ab = 1) (hx : co_cl (M0 202) (M0 203) (M0 204) ab c x) : ∃ M, (px_qk sh rnA M0 M ∧ (∃ y, (M 98 0 = -1 ∧ (rc M 3 = y.1 ∧ ctlR M 27 y.2.1 ∧ M 98 7 = y.2.2.1 ∧ M 98 8 = y.2.2.2 ∧ odI ρ0 (n + 20) y) ∧ od_n lw x x.2.1 (ρ, tl, dn, lt) = some y) ∨ (M 98 0 = ((c : Nat) : Int) ∧ od_n lw x x.2.1 (ρ, tl, dn, lt) = none)) ∧ (fk 98 [0, 7, 8] M0 M)) ∧ px_Cl xs L d 96 [.ref 98, .ref 201, .int (iI (((c : Nat) : Int)))] (sh, M0) (none) (sh, M) := by
  obtain ⟨d, rfl⟩ : ∃ e, d = e + 1 := ⟨d - 1, by omega⟩
  have q0 : px_qk sh rnA M0 M0 := ⟨hF, hG, eo_rf⟩
  refine vc_n (Nat.le_of_ble_eq_true rfl) ?_
  show px_R xs L d 96 (0, [.ref 98, .ref 201, .int (iI (((c : Nat) : Int))), px_jk, px_jk, px_jk, px_jk, px_jk], [], (sh, M0)) (fun r h' => r = none ∧ ∃ M', h' = (sh, M') ∧ px_qk sh rnA M0 M' ∧ (∃ y, (M' 98 0 = -1 ∧ (rc M' 3 = y.1 ∧ ctlR M' 27 y.2.1 ∧ M' 98 7 = y.2.2.1 ∧ M' 98 8 = y.2.2.2 ∧ odI ρ0 (n + 20) y) ∧ od_n lw x x.2.1 (ρ, tl, dn, lt) = some y) ∨ (M' 98 0 = ((c : Nat) : Int) ∧ od_n lw x x.2.1 (ρ, tl, dn, lt) = none)) ∧ fk 98 [0, 7, 8] M0 M')
  have hx1 := hx.1
  refine rr_aload_n pf_96_0 rfl ?_
  refine rr_iload_n pf_96_1 rfl ?_
  have hz1 := ct_Text_kindOf (xs := xs) (L := L) (d := d) (t := 201) (N := 400) (C := 12) (c := c) (by omega) hW q0.1 q0.2.1 (tx201 hW q0.1) hc12
  rw [show M0 (201 + 3) (c * 8 + 0) = x.1 from hx.2.1] at hz1
  refine rr_cV1 pf_96_2 po_96 pc_4_62 (ws_201 hW) po_24 (by decide) rfl hz1 ?_
  refine rr_istore_n pf_96_5 (fun y => [.ref 98, .ref 201, .int (iI (((c : Nat) : Int))), .int (iI (y)), px_jk, px_jk, px_jk, px_jk]) (Nat.le_of_ble_eq_true rfl) (fun _ => rfl) (fun y2 hy2 => ?_)
  refine rr_iconst pf_96_6 ?_
  refine rr_istore pf_96_7 (fun y => [.ref 98, .ref 201, .int (iI (((c : Nat) : Int))), .int (iI (y2)), .int (iI (y)), px_jk, px_jk, px_jk]) (Nat.le_of_ble_eq_true rfl) (fun _ => rfl) (fun y3 hy3 => ?_)
  obtain ⟨nz4, hnz4, rfl⟩ : ∃ zz : Nat, zz = 0 ∧ y3 = ((zz : Nat) : Int) := ⟨0, rfl, by omega⟩
  refine lp_Runner_runClause_9 (xs := xs) (L := L) (d := d) (by omega) hW hR hρ hlw hctl hI hn hdn0 hlt0 hst0 hc12 hA hab hab01 hx (by omega) (fun t_5 y_6 v9 v10 v11 M7 q8 xrq_M7 xJ_M7 => ?_) _ nz4 (ρ, tl, dn, lt) _ _ _ M0 rfl q0 ((fk_rf 98 [0, 7, 8] M0)) (by omega) (by left; rw [show nz4 = 0 by omega]; exact ⟨hst0, ⟨hR, hctl, hdn0, hlt0, hI⟩, rfl⟩)
  refine rr_vret pf_96_275 pt_96 ⟨rfl, M7, rfl, q8, (⟨_, xJ_M7⟩), (xrq_M7)⟩

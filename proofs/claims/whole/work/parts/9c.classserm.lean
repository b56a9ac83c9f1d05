/-! the class's sermon -/
def alC (mu hu g : Nat → Int) : Nat → Int
  | 0 => 0
  | h + 1 => alC mu hu g h + min 1000000 (lvl mu hu h 8 (g h).toNat)
theorem alC_b (mu hu g : Nat → Int) : ∀ h : Nat, 0 ≤ alC mu hu g h ∧ alC mu hu g h ≤ 1000000 * h := by
  intro h
  induction h with
  | zero => simp [alC]
  | succ h ih => have := lvl_b mu hu h 8 (g h).toNat; simp only [alC]; omega
theorem alC_F {mu hu g : Nat → Int} (hg : gB g) : (1000000 ≤ alC mu hu g 3 ↔ 100000000 ≤ alF mu hu 0 g) ∧ (alC mu hu g 3 < 1000000 → alC mu hu g 3 = alF mu hu 0 g) := by
  have d0 := lvD (mu := mu) (hu := hu) (h := 0) (Nat.le_refl 8) (g 0).toNat
  have d1 := lvD (mu := mu) (hu := hu) (h := 1) (Nat.le_refl 8) (g 1).toNat
  have d2 := lvD (mu := mu) (hu := hu) (h := 2) (Nat.le_refl 8) (g 2).toNat
  have b0 := lvl_b mu hu 0 8 (g 0).toNat
  have b1 := lvl_b mu hu 1 8 (g 1).toNat
  have b2 := lvl_b mu hu 2 8 (g 2).toNat
  have g0 := hg 0 (by omega)
  have g1 := hg 1 (by omega)
  have g2 := hg 2 (by omega)
  simp only [alC, alF, Nat.sub_zero]
  omega
theorem cap_iff {mu hu : Nat → Int} {h x s : Nat} (hx : x ≤ 99) (hs : s ≤ x) : min 1000000 (lvl mu hu h 8 (x - s)) = min 1000000 (lvl mu hu h 8 x) - 1 ↔ lvl mu hu h 8 (x - s) = lvl mu hu h 8 x - 1 := by
  have d0 := lvD (mu := mu) (hu := hu) (h := h) (Nat.le_refl 8) (x - s)
  have d1 := lvD (mu := mu) (hu := hu) (h := h) (Nat.le_refl 8) x
  have b0 := lvl_b mu hu h 8 (x - s)
  have b1 := lvl_b mu hu h 8 x
  omega
theorem lp_Paper_fewestFor_31 {xs : Nat → Int} {L d : Nat} {sh : List (Nat × Nat)} (hd : 1 ≤ d) (hW : px_W0 <+: sh) {M0 : Nat → Nat → Int}  {ρ : Nat → Int} (hR : rc M0 3 = ρ) (hρ : sp_ok ρ) {mu : Nat → Int} (hmb : ∀ w, 0 ≤ mu w ∧ mu w ≤ 20) {nw : Nat} (hmz : ∀ w, nw ≤ w → mu w = 0) (hn : ρ 0 = ((nw : Nat) : Int)) (hn8 : nw ≤ 8) (hstm : ∀ w, w < nw → M0 177 (16 * w) = mu w) {g : Nat → Int} {h : Nat} (hh : h < 3) (hgw : M0 178 h = g h) (hgb : 0 ≤ g h ∧ g h ≤ 99) {fr : Int} (hfr : fr = 100 * (h : Int)) {x : Nat} (hx : 1 ≤ x ∧ (x : Int) ≤ g h) {Q : Option Value → px_H → Prop} (kx : ∀ (le : Int) (w : Nat) (v6 : Value) (M : Nat → Nat → Int), px_qk sh [179] M0 M → (le = fLs mu (fun w => ρ (69 + w)) h x nw) → (∀ j, M 179 j = if 100 * h ≤ j ∧ j < 100 * h + x then min 1000000 (lvl mu (fun w => ρ (69 + w)) h 8 (j - 100 * h)) else M0 179 j) → px_R xs L d 122 (106, [.ref 175, .int (iI (((h : Nat) : Int))), .int (iI (fr)), .int (iI (((x : Nat) : Int))), .int (iI (le)), .int (iI (((w : Nat) : Int))), v6], [], (sh, M)) Q)  : ∀ (mz : Nat) (le : Int) (w : Nat) (v6 : Value) (M : Nat → Nat → Int), nw - w = mz → px_qk sh [179] M0 M → (w ≤ nw) → (le = fLs mu (fun w => ρ (69 + w)) h x w) → (∀ j, M 179 j = if 100 * h ≤ j ∧ j < 100 * h + x then min 1000000 (lvl mu (fun w => ρ (69 + w)) h 8 (j - 100 * h)) else M0 179 j) → px_R xs L d 122 (31, [.ref 175, .int (iI (((h : Nat) : Int))), .int (iI (fr)), .int (iI (((x : Nat) : Int))), .int (iI (le)), .int (iI (((w : Nat) : Int))), v6], [], (sh, M)) Q := by
  intro mz
  induction mz using Nat.strongRecOn with
  | _ mz ih =>
    intro le w v6 M hm hq hw hle ht
    have hmw := hmb w
    have hfb := fLs_b (mu := mu) (hu := (fun w => ρ (69 + w))) (h := h) x w
    have hlb := lvl_b mu (fun w => ρ (69 + w)) h 8 (x - (mu w).toNat)
    refine rr_iload pf_122_31 rfl ?_
    refine rr_aload_n pf_122_33 rfl ?_
    refine rr_getR pf_122_34 po_122 pg_2_65 rfl (ws_175 hW) (by decide) (wr_175_3 hq.1) ?_
    refine vr_getI hq pf_122_37 po_122 pg_2_77 rfl (ws_3 hW) (by decide) (fun x1 hx1 rx1 => ?_)
    rw [hq.2.2 3 (by decide)] at hx1
    change x1 = rc M0 3 0 at hx1
    rw [hR] at hx1
    refine rr_icmp_ge 106 pf_122_40 (by decide) (by unfold rg; omega) rx1 (fun c2 => ?_) (fun c2 => ?_)
    · exact kx le w _ M hq (by rw [hle, show w = nw by omega]) (ht)
    · refine rr_aload_n pf_122_43 rfl ?_
      refine rr_getR pf_122_44 po_122 pg_2_22 rfl (ws_175 hW) (by decide) (wr_175_5 hq.1) ?_
      refine rr_iload pf_122_47 rfl ?_
      refine rr_bipush pf_122_49 (by decide) ?_
      refine rr_imul pf_122_51 ?_
      refine vr_iald (j := (16 * w)) hq pf_122_52 (ws_177 hW) (by omega) (by omega) (by decide) (fun x3 hx3 rx3 => ?_)
      rw [hq.2.2 177 (by decide)] at hx3
      rw [hstm w (by omega)] at hx3
      refine rr_istore pf_122_53 (fun y => [.ref 175, .int (iI (((h : Nat) : Int))), .int (iI (fr)), .int (iI (((x : Nat) : Int))), .int (iI (le)), .int (iI (((w : Nat) : Int))), .int (iI (y))]) (Nat.le_of_ble_eq_true rfl) (fun _ => rfl) (fun y4 hy4 => ?_)
      have ry4 : rg y4 := hy4 ▸ rx3
      refine rr_aload_n pf_122_55 rfl ?_
      refine rr_getR pf_122_56 po_122 pg_2_65 rfl (ws_175 hW) (by decide) (wr_175_3 hq.1) ?_
      refine rr_getR pf_122_59 po_122 pg_2_106 rfl (ws_3 hW) (by decide) (wr_3_1 hq.1) ?_
      refine rr_iload pf_122_62 rfl ?_
      refine vr_iald (j := w) hq pf_122_64 (ws_8 hW) (by omega) (by omega) (by decide) (fun x5 hx5 rx5 => ?_)
      rw [hq.2.2 8 (by decide)] at hx5
      rw [c3_8 (M := M0) (i := w) (by omega), hR] at hx5
      refine rr_iload_n pf_122_65 rfl ?_
      refine rr_icmp_ne 100 pf_122_66 (by decide) rx5 (by unfold rg; omega) (fun c6 => ?_) (fun c6 => ?_)
      · refine rr_iinc pf_122_100 rfl (fun y => [.ref 175, .int (iI (((h : Nat) : Int))), .int (iI (fr)), .int (iI (((x : Nat) : Int))), .int (iI (le)), .int (iI (y)), .int (iI (y4))]) (fun _ => rfl) (fun y7 hy7 => ?_)
        refine rr_goto 31 pf_122_103 (by decide) ?_
        obtain ⟨nz8, hnz8, rfl⟩ : ∃ zz : Nat, zz = 1 + w ∧ y7 = ((zz : Nat) : Int) := ⟨1 + w, rfl, by omega⟩
        exact ih _ (by omega) le nz8 _ M rfl hq (by omega) (by rw [show nz8 = w + 1 by omega, fLs, if_neg (fun z => by have z1 : ρ (69 + w) = ((h : Nat) : Int) := z.1; omega)]; exact hle) (ht)
      · refine rr_iload pf_122_69 rfl ?_
        refine rr_if_le 100 pf_122_71 (by decide) ry4 (fun c9 => ?_) (fun c9 => ?_)
        · refine rr_iinc pf_122_100 rfl (fun y => [.ref 175, .int (iI (((h : Nat) : Int))), .int (iI (fr)), .int (iI (((x : Nat) : Int))), .int (iI (le)), .int (iI (y)), .int (iI (y4))]) (fun _ => rfl) (fun y10 hy10 => ?_)
          refine rr_goto 31 pf_122_103 (by decide) ?_
          obtain ⟨nz11, hnz11, rfl⟩ : ∃ zz : Nat, zz = 1 + w ∧ y10 = ((zz : Nat) : Int) := ⟨1 + w, rfl, by omega⟩
          exact ih _ (by omega) le nz11 _ M rfl hq (by omega) (by rw [show nz11 = w + 1 by omega, fLs, if_neg (fun z => by have z1 : ρ (69 + w) = ((h : Nat) : Int) := z.1; omega)]; exact hle) (ht)
        · refine rr_iload pf_122_74 rfl ?_
          refine rr_iload_n pf_122_76 rfl ?_
          refine rr_icmp_gt 100 pf_122_77 (by decide) ry4 (by unfold rg; omega) (fun c12 => ?_) (fun c12 => ?_)
          · refine rr_iinc pf_122_100 rfl (fun y => [.ref 175, .int (iI (((h : Nat) : Int))), .int (iI (fr)), .int (iI (((x : Nat) : Int))), .int (iI (le)), .int (iI (y)), .int (iI (y4))]) (fun _ => rfl) (fun y13 hy13 => ?_)
            refine rr_goto 31 pf_122_103 (by decide) ?_
            obtain ⟨nz14, hnz14, rfl⟩ : ∃ zz : Nat, zz = 1 + w ∧ y13 = ((zz : Nat) : Int) := ⟨1 + w, rfl, by omega⟩
            exact ih _ (by omega) le nz14 _ M rfl hq (by omega) (by rw [show nz14 = w + 1 by omega, fLs, if_neg (fun z => by have z1 : ρ (69 + w) = ((h : Nat) : Int) := z.1; omega)]; exact hle) (ht)
          · refine rr_iload pf_122_80 rfl ?_
            refine rr_aload_n pf_122_82 rfl ?_
            refine rr_getR pf_122_83 po_122 pg_2_28 rfl (ws_175 hW) (by decide) (wr_175_7 hq.1) ?_
            refine rr_iload_n pf_122_86 rfl ?_
            refine rr_iload_n pf_122_87 rfl ?_
            refine rr_iadd pf_122_88 ?_
            refine rr_iload pf_122_89 rfl ?_
            refine rr_isub pf_122_91 ?_
            refine vr_iald (j := (100 * h + (x - (mu w).toNat))) hq pf_122_92 (ws_179 hW) (by omega) (by omega) (by decide) (fun x15 hx15 rx15 => ?_)
            rw [ht, if_pos (by omega), show 100 * h + (x - (mu w).toNat) - 100 * h = x - (mu w).toNat by omega] at hx15
            refine rr_iconst pf_122_93 ?_
            refine rr_iadd pf_122_94 ?_
            refine rr_min pf_122_95 po_122 pc_2_109 rfl (by unfold rg; omega) (by unfold rg; omega) ?_
            refine rr_istore pf_122_98 (fun y => [.ref 175, .int (iI (((h : Nat) : Int))), .int (iI (fr)), .int (iI (((x : Nat) : Int))), .int (iI (y)), .int (iI (((w : Nat) : Int))), .int (iI (y4))]) (Nat.le_of_ble_eq_true rfl) (fun _ => rfl) (fun y16 hy16 => ?_)
            refine rr_iinc pf_122_100 rfl (fun y => [.ref 175, .int (iI (((h : Nat) : Int))), .int (iI (fr)), .int (iI (((x : Nat) : Int))), .int (iI (y16)), .int (iI (y)), .int (iI (y4))]) (fun _ => rfl) (fun y17 hy17 => ?_)
            refine rr_goto 31 pf_122_103 (by decide) ?_
            obtain ⟨nz18, hnz18, rfl⟩ : ∃ zz : Nat, zz = 1 + w ∧ y17 = ((zz : Nat) : Int) := ⟨1 + w, rfl, by omega⟩
            exact ih _ (by omega) y16 nz18 _ M rfl hq (by omega) (by rw [show nz18 = w + 1 by omega, fLs, if_pos ⟨by show ρ (69 + w) = _; omega, by omega, by omega⟩]; omega) (ht)
theorem lp_Paper_fewestFor_14 {xs : Nat → Int} {L d : Nat} {sh : List (Nat × Nat)} (hd : 1 ≤ d) (hW : px_W0 <+: sh) {M0 : Nat → Nat → Int}  {ρ : Nat → Int} (hR : rc M0 3 = ρ) (hρ : sp_ok ρ) {mu : Nat → Int} (hmb : ∀ w, 0 ≤ mu w ∧ mu w ≤ 20) {nw : Nat} (hmz : ∀ w, nw ≤ w → mu w = 0) (hn : ρ 0 = ((nw : Nat) : Int)) (hn8 : nw ≤ 8) (hstm : ∀ w, w < nw → M0 177 (16 * w) = mu w) {g : Nat → Int} {h : Nat} (hh : h < 3) (hgw : M0 178 h = g h) (hgb : 0 ≤ g h ∧ g h ≤ 99) {fr : Int} (hfr : fr = 100 * (h : Int)) {Q : Option Value → px_H → Prop} (kx : ∀ (x : Nat) (v4 : Value) (v5 : Value) (v6 : Value) (M : Nat → Nat → Int), px_qk sh [179] M0 M → (∀ j, M 179 j = if 100 * h ≤ j ∧ j < 100 * h + ((g h).toNat + 1) then min 1000000 (lvl mu (fun w => ρ (69 + w)) h 8 (j - 100 * h)) else M0 179 j) → px_R xs L d 122 (122, [.ref 175, .int (iI (((h : Nat) : Int))), .int (iI (fr)), .int (iI (((x : Nat) : Int))), v4, v5, v6], [], (sh, M)) Q)  : ∀ (mz : Nat) (x : Nat) (v4 : Value) (v5 : Value) (v6 : Value) (M : Nat → Nat → Int), 100 - x = mz → px_qk sh [179] M0 M → (1 ≤ x ∧ (x : Int) ≤ g h + 1) → (∀ j, M 179 j = if 100 * h ≤ j ∧ j < 100 * h + x then min 1000000 (lvl mu (fun w => ρ (69 + w)) h 8 (j - 100 * h)) else M0 179 j) → px_R xs L d 122 (14, [.ref 175, .int (iI (((h : Nat) : Int))), .int (iI (fr)), .int (iI (((x : Nat) : Int))), v4, v5, v6], [], (sh, M)) Q := by
  intro mz
  induction mz using Nat.strongRecOn with
  | _ mz ih =>
    intro x v4 v5 v6 M hm hq hx ht
    refine rr_iload_n pf_122_14 rfl ?_
    refine rr_aload_n pf_122_15 rfl ?_
    refine rr_getR pf_122_16 po_122 pg_2_25 rfl (ws_175 hW) (by decide) (wr_175_6 hq.1) ?_
    refine rr_iload_n pf_122_19 rfl ?_
    refine vr_iald (j := h) hq pf_122_20 (ws_178 hW) (by omega) (by omega) (by decide) (fun x1 hx1 rx1 => ?_)
    rw [hq.2.2 178 (by decide)] at hx1
    rw [hgw] at hx1
    refine rr_icmp_gt 122 pf_122_21 (by decide) (by unfold rg; omega) rx1 (fun c2 => ?_) (fun c2 => ?_)
    · exact kx x _ _ _ M hq (by intro j; rw [ht j, show x = (g h).toNat + 1 by omega])
    · refine rr_ldc pf_122_24 po_122 pk_2_105 ?_
      refine rr_istore pf_122_26 (fun y => [.ref 175, .int (iI (((h : Nat) : Int))), .int (iI (fr)), .int (iI (((x : Nat) : Int))), .int (iI (y)), v5, v6]) (Nat.le_of_ble_eq_true rfl) (fun _ => rfl) (fun y3 hy3 => ?_)
      refine rr_iconst pf_122_28 ?_
      refine rr_istore pf_122_29 (fun y => [.ref 175, .int (iI (((h : Nat) : Int))), .int (iI (fr)), .int (iI (((x : Nat) : Int))), .int (iI (y3)), .int (iI (y)), v6]) (Nat.le_of_ble_eq_true rfl) (fun _ => rfl) (fun y4 hy4 => ?_)
      obtain ⟨nz5, hnz5, rfl⟩ : ∃ zz : Nat, zz = 0 ∧ y4 = ((zz : Nat) : Int) := ⟨0, rfl, by omega⟩
      refine lp_Paper_fewestFor_31 (xs := xs) (L := L) (d := d) (by omega) hW hR hρ hmb hmz hn hn8 hstm hh hgw hgb hfr (by omega) (fun le_6 w_7 v10 M8 q9 xle_M8 xt_M8 => ?_) _ y3 nz5 _ M rfl hq (by omega) (by rw [show nz5 = 0 by omega]; exact hy3) (ht)
      have hxle := xle_M8
      have hfb2 := fLs_b (mu := mu) (hu := (fun w => ρ (69 + w))) (h := h) x nw
      refine rr_aload_n pf_122_106 rfl ?_
      refine rr_getR pf_122_107 po_122 pg_2_28 rfl (ws_175 hW) (by decide) (wr_175_7 q9.1) ?_
      refine rr_iload_n pf_122_110 rfl ?_
      refine rr_iload_n pf_122_111 rfl ?_
      refine rr_iadd pf_122_112 ?_
      refine rr_iload pf_122_113 rfl ?_
      refine vr_iast (j := (100 * h + x)) hW q9 pf_122_115 (ws_179 hW) (by omega) (by omega) (by decide) (by unfold rg; omega) (by decide) (fun M11 eM11 q12 => ?_)
      refine rr_iinc pf_122_116 rfl (fun y => [.ref 175, .int (iI (((h : Nat) : Int))), .int (iI (fr)), .int (iI (y)), .int (iI (le_6)), .int (iI (((w_7 : Nat) : Int))), v10]) (fun _ => rfl) (fun y13 hy13 => ?_)
      refine rr_goto 14 pf_122_119 (by decide) ?_
      obtain ⟨nz14, hnz14, rfl⟩ : ∃ zz : Nat, zz = 1 + x ∧ y13 = ((zz : Nat) : Int) := ⟨1 + x, rfl, by omega⟩
      exact ih _ (by omega) nz14 _ _ _ M11 rfl q12 (by omega) (by
                  intro j; rw [show nz14 = x + 1 by omega, eM11, ask_up]
                  by_cases hj : j = 100 * h + x
                  · rw [if_pos (by omega), if_pos (by omega), hj, show 100 * h + x - 100 * h = x by omega, ← fLs_eq hn8 hmz (by omega) (by omega)]; exact hxle
                  · rw [if_neg (by omega), xt_M8 j]
                    by_cases hc : 100 * h ≤ j ∧ j < 100 * h + x
                    · rw [if_pos hc, if_pos (by omega)]
                    · rw [if_neg hc, if_neg (by omega)])
theorem ct_Paper_fewestFor {xs : Nat → Int} {L d : Nat} {sh : List (Nat × Nat)} {M0 : Nat → Nat → Int} (hd : 2 ≤ d) (hW : px_W0 <+: sh) (hF : px_Fx M0) (hG : px_RG sh M0)  {ρ : Nat → Int} (hR : rc M0 3 = ρ) (hρ : sp_ok ρ) {mu : Nat → Int} (hmb : ∀ w, 0 ≤ mu w ∧ mu w ≤ 20) {nw : Nat} (hmz : ∀ w, nw ≤ w → mu w = 0) (hn : ρ 0 = ((nw : Nat) : Int)) (hn8 : nw ≤ 8) (hstm : ∀ w, w < nw → M0 177 (16 * w) = mu w) {g : Nat → Int} {h : Nat} (hh : h < 3) (hgw : M0 178 h = g h) (hgb : 0 ≤ g h ∧ g h ≤ 99) : ∃ v M, (px_qk sh [179] M0 M ∧ (v = min 1000000 (lvl mu (fun w => ρ (69 + w)) h 8 (g h).toNat)) ∧ (∀ j, M 179 j = if 100 * h ≤ j ∧ j < 100 * h + ((g h).toNat + 1) then min 1000000 (lvl mu (fun w => ρ (69 + w)) h 8 (j - 100 * h)) else M0 179 j)) ∧ px_Cl xs L d 122 [.ref 175, .int (iI (((h : Nat) : Int)))] (sh, M0) (some (.int (iI v))) (sh, M) := by
  obtain ⟨d, rfl⟩ : ∃ e, d = e + 1 := ⟨d - 1, by omega⟩
  have q0 : px_qk sh [179] M0 M0 := ⟨hF, hG, eo_rf⟩
  refine vc_i (Nat.le_of_ble_eq_true rfl) ?_
  show px_R xs L d 122 (0, [.ref 175, .int (iI (((h : Nat) : Int))), px_jk, px_jk, px_jk, px_jk, px_jk], [], (sh, M0)) (fun r h' => ∃ v M', r = some (.int (iI v)) ∧ h' = (sh, M') ∧ px_qk sh [179] M0 M' ∧ v = min 1000000 (lvl mu (fun w => ρ (69 + w)) h 8 (g h).toNat) ∧ (∀ j, M' 179 j = if 100 * h ≤ j ∧ j < 100 * h + ((g h).toNat + 1) then min 1000000 (lvl mu (fun w => ρ (69 + w)) h 8 (j - 100 * h)) else M0 179 j))
  refine rr_iload_n pf_122_0 rfl ?_
  refine rr_bipush pf_122_1 (by decide) ?_
  refine rr_imul pf_122_3 ?_
  refine rr_istore_n pf_122_4 (fun y => [.ref 175, .int (iI (((h : Nat) : Int))), .int (iI (y)), px_jk, px_jk, px_jk, px_jk]) (Nat.le_of_ble_eq_true rfl) (fun _ => rfl) (fun y1 hy1 => ?_)
  refine rr_aload_n pf_122_5 rfl ?_
  refine rr_getR pf_122_6 po_122 pg_2_28 rfl (ws_175 hW) (by decide) (wr_175_7 q0.1) ?_
  refine rr_iload_n pf_122_9 rfl ?_
  refine rr_iconst pf_122_10 ?_
  refine vr_iast (j := (100 * h)) hW q0 pf_122_11 (ws_179 hW) (by omega) (by omega) (by decide) (by unfold rg; omega) (by decide) (fun M2 eM2 q3 => ?_)
  refine rr_iconst pf_122_12 ?_
  refine rr_istore_n pf_122_13 (fun y => [.ref 175, .int (iI (((h : Nat) : Int))), .int (iI (y1)), .int (iI (y)), px_jk, px_jk, px_jk]) (Nat.le_of_ble_eq_true rfl) (fun _ => rfl) (fun y4 hy4 => ?_)
  obtain ⟨nz5, hnz5, rfl⟩ : ∃ zz : Nat, zz = 1 ∧ y4 = ((zz : Nat) : Int) := ⟨1, rfl, by omega⟩
  refine lp_Paper_fewestFor_14 (xs := xs) (L := L) (d := d) (by omega) hW hR hρ hmb hmz hn hn8 hstm hh hgw hgb (by omega) (fun x_6 v9 v10 v11 M7 q8 xt_M7 => ?_) _ nz5 _ _ _ M2 rfl q3 (by omega) (by
          intro j; rw [show nz5 = 1 by omega, eM2, ask_up]
          by_cases hj : j = 100 * h
          · rw [if_pos hj, if_pos (by omega), hj, Nat.sub_self, lv_0]; rfl
          · rw [if_neg hj, if_neg (by omega)])
  refine rr_aload_n pf_122_122 rfl ?_
  refine rr_getR pf_122_123 po_122 pg_2_28 rfl (ws_175 hW) (by decide) (wr_175_7 q8.1) ?_
  refine rr_iload_n pf_122_126 rfl ?_
  refine rr_aload_n pf_122_127 rfl ?_
  refine rr_getR pf_122_128 po_122 pg_2_25 rfl (ws_175 hW) (by decide) (wr_175_6 q8.1) ?_
  refine rr_iload_n pf_122_131 rfl ?_
  refine vr_iald (j := h) q8 pf_122_132 (ws_178 hW) (by omega) (by omega) (by decide) (fun x12 hx12 rx12 => ?_)
  rw [q8.2.2 178 (by decide)] at hx12
  rw [hgw] at hx12
  refine rr_iadd pf_122_133 ?_
  refine vr_iald (j := (100 * h + (g h).toNat)) q8 pf_122_134 (ws_179 hW) (by omega) (by omega) (by decide) (fun x13 hx13 rx13 => ?_)
  rw [xt_M7, if_pos (by omega), show 100 * h + (g h).toNat - 100 * h = (g h).toNat by omega] at hx13
  refine rr_iret pf_122_135 pt_122 ⟨_, M7, rfl, rfl, q8, (by omega), (xt_M7)⟩
theorem lp_Paper_lowestThatHelps_2 {xs : Nat → Int} {L d : Nat} {sh : List (Nat × Nat)}  (hW : px_W0 <+: sh) {M0 : Nat → Nat → Int}  {ρ : Nat → Int} (hR : rc M0 3 = ρ) (hρ : sp_ok ρ) {mu : Nat → Int} (hmb : ∀ w, 0 ≤ mu w ∧ mu w ≤ 20) {nw : Nat} (hmz : ∀ w, nw ≤ w → mu w = 0) (hn : ρ 0 = ((nw : Nat) : Int)) (hn8 : nw ≤ 8) (hstm : ∀ w, w < nw → M0 177 (16 * w) = mu w) {g : Nat → Int} (hgw : ∀ j, j < 3 → M0 178 j = g j) (hgb : gB g) (hft : ∀ h x : Nat, h < 3 → (x : Int) ≤ g h → M0 179 (100 * h + x) = min 1000000 (lvl mu (fun w => ρ (69 + w)) h 8 x))  {Q : Option Value → px_H → Prop} (kx : ∀ (w : Nat) (v2 : Value) (v3 : Value) (v4 : Value) (M : Nat → Nat → Int), px_qk sh [] M0 M → (lowH mu (fun w => ρ (69 + w)) g nw = -1) → px_R xs L d 124 (89, [.ref 175, .int (iI (((w : Nat) : Int))), v2, v3, v4], [], (sh, M)) Q) (hQ : ∀ r h', (fun r h' => ∃ v M', r = some (.int (iI v)) ∧ h' = (sh, M') ∧ px_qk sh [] M0 M' ∧ v = lowH mu (fun w => ρ (69 + w)) g nw) r h' → Q r h') : ∀ (mz : Nat) (w : Nat) (v2 : Value) (v3 : Value) (v4 : Value) (M : Nat → Nat → Int), nw - w = mz → px_qk sh [] M0 M → (w ≤ nw) → (lowH mu (fun w => ρ (69 + w)) g w = -1) → px_R xs L d 124 (2, [.ref 175, .int (iI (((w : Nat) : Int))), v2, v3, v4], [], (sh, M)) Q := by
  intro mz
  induction mz using Nat.strongRecOn with
  | _ mz ih =>
    intro w v2 v3 v4 M hm hq hw hl
    have hmw := hmb w
    refine rr_iload_n pf_124_2 rfl ?_
    refine rr_aload_n pf_124_3 rfl ?_
    refine rr_getR pf_124_4 po_124 pg_2_65 rfl (ws_175 hW) (by decide) (wr_175_3 hq.1) ?_
    refine vr_getI hq pf_124_7 po_124 pg_2_77 rfl (ws_3 hW) (by decide) (fun x1 hx1 rx1 => ?_)
    rw [hq.2.2 3 (by decide)] at hx1
    change x1 = rc M0 3 0 at hx1
    rw [hR] at hx1
    refine rr_icmp_ge 89 pf_124_10 (by decide) (by unfold rg; omega) rx1 (fun c2 => ?_) (fun c2 => ?_)
    · exact kx w _ _ _ M hq (by
                  have e : w = nw := by omega
                  rw [e] at hl; exact hl)
    · refine rr_aload_n pf_124_13 rfl ?_
      refine rr_getR pf_124_14 po_124 pg_2_65 rfl (ws_175 hW) (by decide) (wr_175_3 hq.1) ?_
      refine rr_getR pf_124_17 po_124 pg_2_106 rfl (ws_3 hW) (by decide) (wr_3_1 hq.1) ?_
      refine rr_iload_n pf_124_20 rfl ?_
      refine vr_iald (j := w) hq pf_124_21 (ws_8 hW) (by omega) (by omega) (by decide) (fun x3 hx3 rx3 => ?_)
      rw [hq.2.2 8 (by decide)] at hx3
      rw [c3_8 (M := M0) (i := w) (by omega), hR] at hx3
      have hwb := sp_wh_b hρ (w := w) (by omega)
      have hgh := hgb (ρ (69 + w)).toNat (by omega)
      refine rr_istore_n pf_124_22 (fun y => [.ref 175, .int (iI (((w : Nat) : Int))), .int (iI (y)), v3, v4]) (Nat.le_of_ble_eq_true rfl) (fun _ => rfl) (fun y4 hy4 => ?_)
      have ry4 : rg y4 := hy4 ▸ rx3
      refine rr_aload_n pf_124_23 rfl ?_
      refine rr_getR pf_124_24 po_124 pg_2_22 rfl (ws_175 hW) (by decide) (wr_175_5 hq.1) ?_
      refine rr_iload_n pf_124_27 rfl ?_
      refine rr_bipush pf_124_28 (by decide) ?_
      refine rr_imul pf_124_30 ?_
      refine vr_iald (j := (16 * w)) hq pf_124_31 (ws_177 hW) (by omega) (by omega) (by decide) (fun x5 hx5 rx5 => ?_)
      rw [hq.2.2 177 (by decide)] at hx5
      rw [hstm w (by omega)] at hx5
      refine rr_istore_n pf_124_32 (fun y => [.ref 175, .int (iI (((w : Nat) : Int))), .int (iI (y4)), .int (iI (y)), v4]) (Nat.le_of_ble_eq_true rfl) (fun _ => rfl) (fun y6 hy6 => ?_)
      have ry6 : rg y6 := hy6 ▸ rx5
      refine rr_iload_n pf_124_33 rfl ?_
      refine rr_bipush pf_124_34 (by decide) ?_
      refine rr_imul pf_124_36 ?_
      refine rr_aload_n pf_124_37 rfl ?_
      refine rr_getR pf_124_38 po_124 pg_2_25 rfl (ws_175 hW) (by decide) (wr_175_6 hq.1) ?_
      refine rr_iload_n pf_124_41 rfl ?_
      refine vr_iald (j := (ρ (69 + w)).toNat) hq pf_124_42 (ws_178 hW) (by omega) (by omega) (by decide) (fun x7 hx7 rx7 => ?_)
      rw [hq.2.2 178 (by decide)] at hx7
      rw [hgw (ρ (69 + w)).toNat (by omega)] at hx7
      refine rr_iadd pf_124_43 ?_
      refine rr_istore pf_124_44 (fun y => [.ref 175, .int (iI (((w : Nat) : Int))), .int (iI (y4)), .int (iI (y6)), .int (iI (y))]) (Nat.le_of_ble_eq_true rfl) (fun _ => rfl) (fun y8 hy8 => ?_)
      refine rr_iload_n pf_124_46 rfl ?_
      refine rr_if_le 83 pf_124_47 (by decide) ry6 (fun c9 => ?_) (fun c9 => ?_)
      · have hnh : ¬ hlpB mu (fun w => ρ (69 + w)) g w = true := by
          intro z
          have z1 := of_decide_eq_true z
          dsimp only at z1
          omega
        refine rr_iinc pf_124_83 rfl (fun y => [.ref 175, .int (iI (y)), .int (iI (y4)), .int (iI (y6)), .int (iI (y8))]) (fun _ => rfl) (fun y10 hy10 => ?_)
        refine rr_goto 2 pf_124_86 (by decide) ?_
        obtain ⟨nz11, hnz11, rfl⟩ : ∃ zz : Nat, zz = 1 + w ∧ y10 = ((zz : Nat) : Int) := ⟨1 + w, rfl, by omega⟩
        exact ih _ (by omega) nz11 _ _ _ M rfl hq (by omega) (by rw [show nz11 = w + 1 by omega, lowH, if_pos hl, if_neg (fun z => hnh z)])
      · refine rr_iload_n pf_124_50 rfl ?_
        refine rr_aload_n pf_124_51 rfl ?_
        refine rr_getR pf_124_52 po_124 pg_2_25 rfl (ws_175 hW) (by decide) (wr_175_6 hq.1) ?_
        refine rr_iload_n pf_124_55 rfl ?_
        refine vr_iald (j := (ρ (69 + w)).toNat) hq pf_124_56 (ws_178 hW) (by omega) (by omega) (by decide) (fun x12 hx12 rx12 => ?_)
        rw [hq.2.2 178 (by decide)] at hx12
        rw [hgw (ρ (69 + w)).toNat (by omega)] at hx12
        refine rr_icmp_gt 83 pf_124_57 (by decide) ry6 rx12 (fun c13 => ?_) (fun c13 => ?_)
        · have hnh : ¬ hlpB mu (fun w => ρ (69 + w)) g w = true := by
            intro z
            have z1 := of_decide_eq_true z
            dsimp only at z1
            omega
          refine rr_iinc pf_124_83 rfl (fun y => [.ref 175, .int (iI (y)), .int (iI (y4)), .int (iI (y6)), .int (iI (y8))]) (fun _ => rfl) (fun y14 hy14 => ?_)
          refine rr_goto 2 pf_124_86 (by decide) ?_
          obtain ⟨nz15, hnz15, rfl⟩ : ∃ zz : Nat, zz = 1 + w ∧ y14 = ((zz : Nat) : Int) := ⟨1 + w, rfl, by omega⟩
          exact ih _ (by omega) nz15 _ _ _ M rfl hq (by omega) (by rw [show nz15 = w + 1 by omega, lowH, if_pos hl, if_neg (fun z => hnh z)])
        · refine rr_aload_n pf_124_60 rfl ?_
          refine rr_getR pf_124_61 po_124 pg_2_28 rfl (ws_175 hW) (by decide) (wr_175_7 hq.1) ?_
          refine rr_iload pf_124_64 rfl ?_
          refine rr_iload_n pf_124_66 rfl ?_
          refine rr_isub pf_124_67 ?_
          refine vr_iald (j := (100 * (ρ (69 + w)).toNat + ((g (ρ (69 + w)).toNat).toNat - (mu w).toNat))) hq pf_124_68 (ws_179 hW) (by omega) (by omega) (by decide) (fun x16 hx16 rx16 => ?_)
          rw [hq.2.2 179 (by decide)] at hx16
          rw [hft (ρ (69 + w)).toNat ((g (ρ (69 + w)).toNat).toNat - (mu w).toNat) (by omega) (by omega)] at hx16
          have hlb2 := lvl_b mu (fun w => ρ (69 + w)) (ρ (69 + w)).toNat 8 ((g (ρ (69 + w)).toNat).toNat - (mu w).toNat)
          refine rr_aload_n pf_124_69 rfl ?_
          refine rr_getR pf_124_70 po_124 pg_2_28 rfl (ws_175 hW) (by decide) (wr_175_7 hq.1) ?_
          refine rr_iload pf_124_73 rfl ?_
          refine vr_iald (j := (100 * (ρ (69 + w)).toNat + (g (ρ (69 + w)).toNat).toNat)) hq pf_124_75 (ws_179 hW) (by omega) (by omega) (by decide) (fun x17 hx17 rx17 => ?_)
          rw [hq.2.2 179 (by decide)] at hx17
          rw [hft (ρ (69 + w)).toNat (g (ρ (69 + w)).toNat).toNat (by omega) (by omega)] at hx17
          have hcap := cap_iff (mu := mu) (hu := (fun w => ρ (69 + w))) (h := (ρ (69 + w)).toNat) (x := (g (ρ (69 + w)).toNat).toNat) (s := (mu w).toNat) (by omega) (by omega)
          have hlb1 := lvl_b mu (fun w => ρ (69 + w)) (ρ (69 + w)).toNat 8 (g (ρ (69 + w)).toNat).toNat
          refine rr_iconst pf_124_76 ?_
          refine rr_isub pf_124_77 ?_
          refine rr_icmp_ne 83 pf_124_78 (by decide) rx16 (by unfold rg; omega) (fun c18 => ?_) (fun c18 => ?_)
          · have hnh : ¬ hlpB mu (fun w => ρ (69 + w)) g w = true := by
              intro z
              have z1 := of_decide_eq_true z
              dsimp only at z1
              rw [show (g (ρ (69 + w)).toNat - mu w).toNat = (g (ρ (69 + w)).toNat).toNat - (mu w).toNat by omega] at z1
              have z2 := hcap.mpr z1.2.2
              omega
            refine rr_iinc pf_124_83 rfl (fun y => [.ref 175, .int (iI (y)), .int (iI (y4)), .int (iI (y6)), .int (iI (y8))]) (fun _ => rfl) (fun y19 hy19 => ?_)
            refine rr_goto 2 pf_124_86 (by decide) ?_
            obtain ⟨nz20, hnz20, rfl⟩ : ∃ zz : Nat, zz = 1 + w ∧ y19 = ((zz : Nat) : Int) := ⟨1 + w, rfl, by omega⟩
            exact ih _ (by omega) nz20 _ _ _ M rfl hq (by omega) (by rw [show nz20 = w + 1 by omega, lowH, if_pos hl, if_neg (fun z => hnh z)])
          · refine rr_iload_n pf_124_81 rfl ?_
            refine rr_iret pf_124_82 pt_124 (hQ _ _ ⟨_, M, rfl, rfl, hq, (by
                              have hyh : hlpB mu (fun w => ρ (69 + w)) g w = true := by
                                refine decide_eq_true ?_
                                dsimp only
                                refine ⟨by omega, by omega, ?_⟩
                                rw [show (g (ρ (69 + w)).toNat - mu w).toNat = (g (ρ (69 + w)).toNat).toNat - (mu w).toNat by omega]
                                exact hcap.mp (by omega)
                              have e1 : lowH mu (fun w => ρ (69 + w)) g (w + 1) = ((w : Nat) : Int) := by rw [lowH, if_pos hl, if_pos hyh]
                              have e2 := lowH_f (mu := mu) (hu := (fun w => ρ (69 + w))) (g := g) (m := w + 1) (by rw [e1]; omega) (nw - (w + 1))
                              rw [show w + 1 + (nw - (w + 1)) = nw by omega, e1] at e2
                              exact e2.symm)⟩)
theorem ct_Paper_lowestThatHelps {xs : Nat → Int} {L d : Nat} {sh : List (Nat × Nat)} {M0 : Nat → Nat → Int} (hd : 1 ≤ d) (hW : px_W0 <+: sh) (hF : px_Fx M0) (hG : px_RG sh M0)  {ρ : Nat → Int} (hR : rc M0 3 = ρ) (hρ : sp_ok ρ) {mu : Nat → Int} (hmb : ∀ w, 0 ≤ mu w ∧ mu w ≤ 20) {nw : Nat} (hmz : ∀ w, nw ≤ w → mu w = 0) (hn : ρ 0 = ((nw : Nat) : Int)) (hn8 : nw ≤ 8) (hstm : ∀ w, w < nw → M0 177 (16 * w) = mu w) {g : Nat → Int} (hgw : ∀ j, j < 3 → M0 178 j = g j) (hgb : gB g) (hft : ∀ h x : Nat, h < 3 → (x : Int) ≤ g h → M0 179 (100 * h + x) = min 1000000 (lvl mu (fun w => ρ (69 + w)) h 8 x)) : ∃ v M, (px_qk sh [] M0 M ∧ (v = lowH mu (fun w => ρ (69 + w)) g nw)) ∧ px_Cl xs L d 124 [.ref 175] (sh, M0) (some (.int (iI v))) (sh, M) := by
  obtain ⟨d, rfl⟩ : ∃ e, d = e + 1 := ⟨d - 1, by omega⟩
  have q0 : px_qk sh [] M0 M0 := ⟨hF, hG, eo_rf⟩
  refine vc_i (Nat.le_of_ble_eq_true rfl) ?_
  show px_R xs L d 124 (0, [.ref 175, px_jk, px_jk, px_jk, px_jk], [], (sh, M0)) (fun r h' => ∃ v M', r = some (.int (iI v)) ∧ h' = (sh, M') ∧ px_qk sh [] M0 M' ∧ v = lowH mu (fun w => ρ (69 + w)) g nw)
  refine rr_iconst pf_124_0 ?_
  refine rr_istore_n pf_124_1 (fun y => [.ref 175, .int (iI (y)), px_jk, px_jk, px_jk]) (Nat.le_of_ble_eq_true rfl) (fun _ => rfl) (fun y1 hy1 => ?_)
  obtain ⟨nz2, hnz2, rfl⟩ : ∃ zz : Nat, zz = 0 ∧ y1 = ((zz : Nat) : Int) := ⟨0, rfl, by omega⟩
  refine lp_Paper_lowestThatHelps_2 (xs := xs) (L := L) (d := d)  hW hR hρ hmb hmz hn hn8 hstm hgw hgb hft (fun w_3 v6 v7 v8 M4 q5 xl_M4 => ?_) (fun _ _ h => h) _ nz2 _ _ _ M0 rfl q0 (by omega) (by rw [show nz2 = 0 by omega]; rfl)
  refine rr_iconst pf_124_89 ?_
  refine rr_iret pf_124_90 pt_124 ⟨_, M4, rfl, rfl, q5, (by rw [xl_M4])⟩
theorem lp_Paper_wordOfSermon_4 {xs : Nat → Int} {L d : Nat} {sh : List (Nat × Nat)} (hd : 1 ≤ d) (hW : px_W0 <+: sh) {M0 : Nat → Nat → Int}  {ρ : Nat → Int} (hR : rc M0 3 = ρ) (hρ : sp_ok ρ) {mu : Nat → Int} (hmb : ∀ w, 0 ≤ mu w ∧ mu w ≤ 20) {nw : Nat} (hmz : ∀ w, nw ≤ w → mu w = 0) (hn : ρ 0 = ((nw : Nat) : Int)) (hn8 : nw ≤ 8) (hstm : ∀ w, w < nw → M0 177 (16 * w) = mu w) {g0 : Nat → Int} (hg0 : gB g0) (hgw : ∀ j, j < 3 → M0 178 j = g0 j) (hft : ∀ h x : Nat, h < 3 → (x : Int) ≤ g0 h → M0 179 (100 * h + x) = min 1000000 (lvl mu (fun w => ρ (69 + w)) h 8 x)) (hfin : alF mu (fun w => ρ (69 + w)) 0 g0 < 100000000) {i : Nat} (hi : (i : Int) < alF mu (fun w => ρ (69 + w)) 0 g0)  {Q : Option Value → px_H → Prop} (kx : ∀ (la : Int) (k : Nat) (M : Nat → Nat → Int), px_qk sh [178] M0 M → (la = (seG mu (fun w => ρ (69 + w)) nw g0 (i + 1)).2) → (-1 ≤ la ∧ la < 8) → px_R xs L d 123 (53, [.ref 175, .int (iI (((i : Nat) : Int))), .int (iI (la)), .int (iI (((k : Nat) : Int)))], [], (sh, M)) Q) (hQ : ∀ r h', (fun r h' => ∃ v M', r = some (.int (iI v)) ∧ h' = (sh, M') ∧ px_qk sh [178] M0 M' ∧ v = (seG mu (fun w => ρ (69 + w)) nw g0 (i + 1)).2) r h' → Q r h') : ∀ (mz : Nat) (la : Int) (k : Nat) (M : Nat → Nat → Int), i + 1 - k = mz → px_qk sh [178] M0 M → (k ≤ i + 1) → (∀ j, j < 3 → M 178 j = (seG mu (fun w => ρ (69 + w)) nw g0 k).1 j) → (∀ j, j < 3 → (seG mu (fun w => ρ (69 + w)) nw g0 k).1 j ≤ g0 j) → (la = (seG mu (fun w => ρ (69 + w)) nw g0 k).2) → (-1 ≤ la ∧ la < 8) → px_R xs L d 123 (4, [.ref 175, .int (iI (((i : Nat) : Int))), .int (iI (la)), .int (iI (((k : Nat) : Int)))], [], (sh, M)) Q := by
  intro mz
  induction mz using Nat.strongRecOn with
  | _ mz ih =>
    intro la k M hm hq hk hgk hgl hla hlb
    refine rr_iload_n pf_123_4 rfl ?_
    refine rr_iload_n pf_123_5 rfl ?_
    refine rr_icmp_gt 53 pf_123_6 (by decide) (by unfold rg; omega) (by unfold rg; omega) (fun c1 => ?_) (fun c1 => ?_)
    · exact kx la k M hq (by rw [hla, show k = i + 1 by omega]) (hlb)
    · have hse := (seG_inv hn8 hmz (fun w => (hmb w).1) (fun w hw => sp_wh_b hρ hw) hg0 hfin k (by omega))
      obtain ⟨x, x1, x2, x3, x4⟩ := hlp_e hn8 hmz (fun w => (hmb w).1) (fun w hw => sp_wh_b hρ hw) hse.1 (by omega) (by omega)
      have h3x := of_decide_eq_true x3
      dsimp only at h3x
      have hwb := sp_wh_b hρ (w := x) (by omega)
      have hgx := hse.1 (ρ (69 + x)).toNat (by omega)
      have hmx := hmb x
      refine rr_aload_n pf_123_9 rfl ?_
      obtain ⟨r4, M2, ⟨kq3, pv_M2⟩, hcM2⟩ := ct_Paper_lowestThatHelps (xs := xs) (L := L) (d := d) (mu := mu) (nw := nw) (g := (seG mu (fun w => ρ (69 + w)) nw g0 k).1) (by omega) hW hq.1 hq.2.1 ((rc_eo hq.2.2 (by decide)).trans hR) hρ hmb hmz hn hn8 (by rw [hq.2.2 177 (by decide)]; exact hstm) hgk hse.1 (fun h x2 hh hx2 => by rw [hq.2.2 179 (by decide)]; exact hft h x2 hh (by have := hgl h hh; omega))
      obtain rfl := qk_nil kq3
      refine rr_cV0 pf_123_10 po_123 pc_2_114 (ws_175 hW) po_124 (by decide) rfl hcM2 ?_
      rw [x2] at pv_M2
      refine rr_istore_n pf_123_13 (fun y => [.ref 175, .int (iI (((i : Nat) : Int))), .int (iI (y)), .int (iI (((k : Nat) : Int)))]) (Nat.le_of_ble_eq_true rfl) (fun _ => rfl) (fun y5 hy5 => ?_)
      refine rr_iload_n pf_123_14 rfl ?_
      refine rr_iconst pf_123_15 ?_
      refine rr_icmp_ne 21 pf_123_16 (by decide) (by unfold rg; omega) (by unfold rg; omega) (fun c6 => ?_) (fun c6 => ?_)
      · refine rr_aload_n pf_123_21 rfl ?_
        refine rr_getR pf_123_22 po_123 pg_2_25 rfl (ws_175 hW) (by decide) (wr_175_6 hq.1) ?_
        refine rr_aload_n pf_123_25 rfl ?_
        refine rr_getR pf_123_26 po_123 pg_2_65 rfl (ws_175 hW) (by decide) (wr_175_3 hq.1) ?_
        refine rr_getR pf_123_29 po_123 pg_2_106 rfl (ws_3 hW) (by decide) (wr_3_1 hq.1) ?_
        refine rr_iload_n pf_123_32 rfl ?_
        refine vr_iald (j := x) hq pf_123_33 (ws_8 hW) (by omega) (by omega) (by decide) (fun x7 hx7 rx7 => ?_)
        rw [hq.2.2 8 (by decide)] at hx7
        rw [c3_8 (M := M0) (i := x) (by omega), hR] at hx7
        refine rr_dup2 pf_123_34 rfl rfl ?_
        refine vr_iald (j := (ρ (69 + x)).toNat) hq pf_123_35 (ws_178 hW) (by omega) (by omega) (by decide) (fun x8 hx8 rx8 => ?_)
        rw [hgk (ρ (69 + x)).toNat (by omega)] at hx8
        refine rr_aload_n pf_123_36 rfl ?_
        refine rr_getR pf_123_37 po_123 pg_2_22 rfl (ws_175 hW) (by decide) (wr_175_5 hq.1) ?_
        refine rr_iload_n pf_123_40 rfl ?_
        refine rr_bipush pf_123_41 (by decide) ?_
        refine rr_imul pf_123_43 ?_
        refine vr_iald (j := (16 * x)) hq pf_123_44 (ws_177 hW) (by omega) (by omega) (by decide) (fun x9 hx9 rx9 => ?_)
        rw [hq.2.2 177 (by decide)] at hx9
        rw [hstm x (by omega)] at hx9
        refine rr_isub pf_123_45 ?_
        refine vr_iast (j := (ρ (69 + x)).toNat) hW hq pf_123_46 (ws_178 hW) (by omega) (by omega) (by decide) (by unfold rg; omega) (by decide) (fun M10 eM10 q11 => ?_)
        refine rr_iinc pf_123_47 rfl (fun y => [.ref 175, .int (iI (((i : Nat) : Int))), .int (iI (y5)), .int (iI (y))]) (fun _ => rfl) (fun y12 hy12 => ?_)
        refine rr_goto 4 pf_123_50 (by decide) ?_
        obtain ⟨nz13, hnz13, rfl⟩ : ∃ zz : Nat, zz = 1 + k ∧ y12 = ((zz : Nat) : Int) := ⟨1 + k, rfl, by omega⟩
        exact ih _ (by omega) y5 nz13 M10 rfl q11 (by omega) (by
                      intro j hj; rw [show nz13 = k + 1 by omega, seG, x2, Int.toNat_natCast, eM10, ask_up]
                      show _ = fup (seG mu (fun w => ρ (69 + w)) nw g0 k).1 (ρ (69 + x)).toNat ((seG mu (fun w => ρ (69 + w)) nw g0 k).1 (ρ (69 + x)).toNat - mu x) j
                      unfold fup
                      by_cases hz : j = (ρ (69 + x)).toNat
                      · rw [if_pos hz, if_pos hz]; omega
                      · rw [if_neg hz, if_neg hz]; exact hgk j hj) (by
                      intro j hj; rw [show nz13 = k + 1 by omega, seG, x2, Int.toNat_natCast]
                      show fup (seG mu (fun w => ρ (69 + w)) nw g0 k).1 (ρ (69 + x)).toNat ((seG mu (fun w => ρ (69 + w)) nw g0 k).1 (ρ (69 + x)).toNat - mu x) j ≤ _
                      have hg1 := hgl j hj
                      unfold fup
                      split
                      · rename_i hz; rw [hz] at hg1 ⊢; omega
                      · exact hg1) (by rw [show nz13 = k + 1 by omega, seG]; show y5 = lowH mu (fun w => ρ (69 + w)) (seG mu (fun w => ρ (69 + w)) nw g0 k).1 nw; omega) (by omega)
      · exfalso; omega
theorem ct_Paper_wordOfSermon {xs : Nat → Int} {L d : Nat} {sh : List (Nat × Nat)} {M0 : Nat → Nat → Int} (hd : 2 ≤ d) (hW : px_W0 <+: sh) (hF : px_Fx M0) (hG : px_RG sh M0)  {ρ : Nat → Int} (hR : rc M0 3 = ρ) (hρ : sp_ok ρ) {mu : Nat → Int} (hmb : ∀ w, 0 ≤ mu w ∧ mu w ≤ 20) {nw : Nat} (hmz : ∀ w, nw ≤ w → mu w = 0) (hn : ρ 0 = ((nw : Nat) : Int)) (hn8 : nw ≤ 8) (hstm : ∀ w, w < nw → M0 177 (16 * w) = mu w) {g0 : Nat → Int} (hg0 : gB g0) (hgw : ∀ j, j < 3 → M0 178 j = g0 j) (hft : ∀ h x : Nat, h < 3 → (x : Int) ≤ g0 h → M0 179 (100 * h + x) = min 1000000 (lvl mu (fun w => ρ (69 + w)) h 8 x)) (hfin : alF mu (fun w => ρ (69 + w)) 0 g0 < 100000000) {i : Nat} (hi : (i : Int) < alF mu (fun w => ρ (69 + w)) 0 g0) : ∃ v M, (px_qk sh [178] M0 M ∧ (v = (seG mu (fun w => ρ (69 + w)) nw g0 (i + 1)).2)) ∧ px_Cl xs L d 123 [.ref 175, .int (iI (((i : Nat) : Int)))] (sh, M0) (some (.int (iI v))) (sh, M) := by
  obtain ⟨d, rfl⟩ : ∃ e, d = e + 1 := ⟨d - 1, by omega⟩
  have q0 : px_qk sh [178] M0 M0 := ⟨hF, hG, eo_rf⟩
  refine vc_i (Nat.le_of_ble_eq_true rfl) ?_
  show px_R xs L d 123 (0, [.ref 175, .int (iI (((i : Nat) : Int))), px_jk, px_jk], [], (sh, M0)) (fun r h' => ∃ v M', r = some (.int (iI v)) ∧ h' = (sh, M') ∧ px_qk sh [178] M0 M' ∧ v = (seG mu (fun w => ρ (69 + w)) nw g0 (i + 1)).2)
  refine rr_iconst pf_123_0 ?_
  refine rr_istore_n pf_123_1 (fun y => [.ref 175, .int (iI (((i : Nat) : Int))), .int (iI (y)), px_jk]) (Nat.le_of_ble_eq_true rfl) (fun _ => rfl) (fun y1 hy1 => ?_)
  refine rr_iconst pf_123_2 ?_
  refine rr_istore_n pf_123_3 (fun y => [.ref 175, .int (iI (((i : Nat) : Int))), .int (iI (y1)), .int (iI (y))]) (Nat.le_of_ble_eq_true rfl) (fun _ => rfl) (fun y2 hy2 => ?_)
  obtain ⟨nz3, hnz3, rfl⟩ : ∃ zz : Nat, zz = 0 ∧ y2 = ((zz : Nat) : Int) := ⟨0, rfl, by omega⟩
  refine lp_Paper_wordOfSermon_4 (xs := xs) (L := L) (d := d) (by omega) hW hR hρ hmb hmz hn hn8 hstm hg0 hgw hft hfin hi (fun la_4 k_5  M6 q7 xla_M6 xlb_M6 => ?_) (fun _ _ h => h) _ y1 nz3 M0 rfl q0 (by omega) (by intro j hj; rw [show nz3 = 0 by omega, seG]; exact hgw j hj) (by intro j hj; rw [show nz3 = 0 by omega, seG]; exact Int.le_refl _) (by rw [show nz3 = 0 by omega]; exact hy1) (by omega)
  refine rr_iload_n pf_123_53 rfl ?_
  refine rr_iret pf_123_54 pt_123 ⟨_, M6, rfl, rfl, q7, (xla_M6)⟩
theorem mu_z {lw : List sp_C} {ρ : Nat → Int} {pane nw : Nat} (hn : ρ 0 = ((nw : Nat) : Int)) : ∀ w, nw ≤ w → sp_mu lw ρ pane w = 0 := by
  intro w hw
  unfold sp_mu
  rw [if_neg (by omega)]
theorem sp_hue_b9 {ρ : Nat → Int} (h : sp_ok ρ) {i : Nat} (hi : i < 48) : 0 ≤ ρ (9 + i) ∧ ρ (9 + i) ≤ 99 := h.2.2.2.2.2.2.2.2.2.1 i hi
theorem lp_Paper_prepareSermon_124 {xs : Nat → Int} {L d : Nat} {sh : List (Nat × Nat)} (hd : 6 ≤ d) (hW : px_W0 <+: sh) {M0 : Nat → Nat → Int}  {ρ : Nat → Int} (hR : rc M0 3 = ρ) (hρ : sp_ok ρ) {lw : List sp_C} (hlw : px_lw sh M0 3 lw) {nw : Nat} (hn : ρ 0 = ((nw : Nat) : Int)) (hn8 : nw ≤ 8) {pane : Nat} (hpn : pane < 16) {er eb ec : Int} (hr9 : 0 ≤ er ∧ er ≤ 99) (hb9 : 0 ≤ eb ∧ eb ≤ 99) (hc9 : 0 ≤ ec ∧ ec ≤ 99) {g : Nat → Int} (hg0 : g 0 = er - ρ (9 + 3 * pane)) (hg1 : g 1 = eb - ρ (9 + 3 * pane + 1)) (hg2 : g 2 = ec - ρ (9 + 3 * pane + 2)) (hgl : ∀ j, j < 3 → g j ≤ 99)  {Q : Option Value → px_H → Prop} (kx : ∀ (al : Int) (h : Nat) (M : Nat → Nat → Int), px_qk sh [2, 13, 177, 178, 179] M0 M → (∀ j, j < 3 → M 178 j = g j) → (∀ w2, w2 < nw → M 177 (16 * w2) = (sp_mu lw ρ pane) w2) → (∀ j, j < 3 → 0 ≤ g j) → (∀ h2 x : Nat, h2 < 3 → (x : Int) ≤ g h2 → M 179 (100 * h2 + x) = min 1000000 (lvl (sp_mu lw ρ pane) (fun w => ρ (69 + w)) h2 8 x)) → (al = alC (sp_mu lw ρ pane) (fun w => ρ (69 + w)) g 3) → (0 ≤ al ∧ al ≤ 3000000) → px_R xs L d 121 (159, [.ref 175, .int (iI (((pane : Nat) : Int))), .int (iI (er)), .int (iI (eb)), .int (iI (ec)), .int (iI (al)), .int (iI (((h : Nat) : Int)))], [], (sh, M)) Q) (hQ : ∀ r h', (fun r h' => ∃ v M', r = some (.int (iI v)) ∧ h' = (sh, M') ∧ px_qk sh [2, 13, 177, 178, 179] M0 M' ∧ (v = if g 0 < 0 ∨ g 1 < 0 ∨ g 2 < 0 ∨ 100000000 ≤ alF (sp_mu lw ρ pane) (fun w => ρ (69 + w)) 0 g then -1 else alF (sp_mu lw ρ pane) (fun w => ρ (69 + w)) 0 g) ∧ (0 ≤ v → (∀ j, j < 3 → M' 178 j = g j) ∧ (∀ w, w < nw → M' 177 (16 * w) = (sp_mu lw ρ pane) w) ∧ gB g ∧ (∀ h2 x : Nat, h2 < 3 → (x : Int) ≤ g h2 → M' 179 (100 * h2 + x) = min 1000000 (lvl (sp_mu lw ρ pane) (fun w => ρ (69 + w)) h2 8 x)))) r h' → Q r h') : ∀ (mz : Nat) (al : Int) (h : Nat) (M : Nat → Nat → Int), 3 - h = mz → px_qk sh [2, 13, 177, 178, 179] M0 M → (h ≤ 3) → (∀ j, j < 3 → M 178 j = g j) → (∀ w2, w2 < nw → M 177 (16 * w2) = (sp_mu lw ρ pane) w2) → (∀ j, j < h → 0 ≤ g j) → (∀ h2 x : Nat, h2 < h → (x : Int) ≤ g h2 → M 179 (100 * h2 + x) = min 1000000 (lvl (sp_mu lw ρ pane) (fun w => ρ (69 + w)) h2 8 x)) → (al = alC (sp_mu lw ρ pane) (fun w => ρ (69 + w)) g h) → px_R xs L d 121 (124, [.ref 175, .int (iI (((pane : Nat) : Int))), .int (iI (er)), .int (iI (eb)), .int (iI (ec)), .int (iI (al)), .int (iI (((h : Nat) : Int)))], [], (sh, M)) Q := by
  intro mz
  induction mz using Nat.strongRecOn with
  | _ mz ih =>
    intro al h M hm hq hh h78 hst hps hft hal
    have hcb := alC_b (sp_mu lw ρ pane) (fun w => ρ (69 + w)) g h
    refine rr_iload pf_121_124 rfl ?_
    refine rr_iconst pf_121_126 ?_
    refine rr_icmp_ge 159 pf_121_127 (by decide) (by unfold rg; omega) (by unfold rg; omega) (fun c1 => ?_) (fun c1 => ?_)
    · exact kx al h M hq (h78) (hst) (by intro j hj; exact hps j (by omega)) (by intro h2 x2 hh2; exact hft h2 x2 (by omega)) (by rw [hal, show h = 3 by omega]) (by omega)
    · refine rr_aload_n pf_121_130 rfl ?_
      refine rr_getR pf_121_131 po_121 pg_2_25 rfl (ws_175 hW) (by decide) (wr_175_6 hq.1) ?_
      refine rr_iload pf_121_134 rfl ?_
      refine vr_iald (j := h) hq pf_121_136 (ws_178 hW) (by omega) (by omega) (by decide) (fun x2 hx2 rx2 => ?_)
      rw [h78 h (by omega)] at hx2
      refine rr_if_ge 142 pf_121_137 (by decide) rx2 (fun c3 => ?_) (fun c3 => ?_)
      · have hgm := hgl h (by omega)
        refine rr_iload pf_121_142 rfl ?_
        refine rr_aload_n pf_121_144 rfl ?_
        refine rr_iload pf_121_145 rfl ?_
        obtain ⟨r6, M4, ⟨kq5, pv_M4, pt_M4⟩, hcM4⟩ := ct_Paper_fewestFor (xs := xs) (L := L) (d := d) (h := h) (mu := (sp_mu lw ρ pane)) (nw := nw) (g := g) (by omega) hW hq.1 hq.2.1 ((rc_eo hq.2.2 (by decide)).trans hR) hρ (mu_b lw ρ pane) (mu_z hn) hn hn8 hst (by omega) (h78 h (by omega)) (by omega)
        have q5 := qk_trm hq kq5 (by decide)
        refine rr_cV1 pf_121_147 po_121 pc_2_101 (ws_175 hW) po_122 (by decide) rfl hcM4 ?_
        have hlb := lvl_b (sp_mu lw ρ pane) (fun w => ρ (69 + w)) h 8 (g h).toNat
        refine rr_iadd pf_121_150 ?_
        refine rr_istore pf_121_151 (fun y => [.ref 175, .int (iI (((pane : Nat) : Int))), .int (iI (er)), .int (iI (eb)), .int (iI (ec)), .int (iI (y)), .int (iI (((h : Nat) : Int)))]) (Nat.le_of_ble_eq_true rfl) (fun _ => rfl) (fun y7 hy7 => ?_)
        refine rr_iinc pf_121_153 rfl (fun y => [.ref 175, .int (iI (((pane : Nat) : Int))), .int (iI (er)), .int (iI (eb)), .int (iI (ec)), .int (iI (y7)), .int (iI (y))]) (fun _ => rfl) (fun y8 hy8 => ?_)
        refine rr_goto 124 pf_121_156 (by decide) ?_
        obtain ⟨nz9, hnz9, rfl⟩ : ∃ zz : Nat, zz = 1 + h ∧ y8 = ((zz : Nat) : Int) := ⟨1 + h, rfl, by omega⟩
        exact ih _ (by omega) y7 nz9 M4 rfl q5 (by omega) (by rw [kq5.2.2 178 (by decide)]; exact h78) (by rw [kq5.2.2 177 (by decide)]; exact hst) (by
                      intro j hj; rcases (show j < h ∨ j = h by omega) with z | z
                      · exact hps j z
                      · subst z; omega) (by
                      intro h2 x2 hh2 hx2; rw [pt_M4 (100 * h2 + x2)]
                      have hgb2 := hgl h2 (by omega)
                      by_cases hz : h2 = h
                      · subst hz; rw [if_pos (by omega), show 100 * h2 + x2 - 100 * h2 = x2 by omega]
                      · rw [if_neg (by omega)]; exact hft h2 x2 (by omega) hx2) (by rw [show nz9 = h + 1 by omega, alC]; omega)
      · refine rr_iconst pf_121_140 ?_
        refine rr_iret pf_121_141 pt_121 (hQ _ _ ⟨_, M, rfl, rfl, hq, (by rw [if_pos (by rcases (show h = 0 ∨ h = 1 ∨ h = 2 by omega) with z | z | z <;> subst z <;> omega)]), (by intro hv; exfalso; omega)⟩)
theorem lp_Paper_prepareSermon_64 {xs : Nat → Int} {L d : Nat} {sh : List (Nat × Nat)} (hd : 6 ≤ d) (hW : px_W0 <+: sh) {M0 : Nat → Nat → Int}  {ρ : Nat → Int} (hR : rc M0 3 = ρ) (hρ : sp_ok ρ) {lw : List sp_C} (hlw : px_lw sh M0 3 lw) {nw : Nat} (hn : ρ 0 = ((nw : Nat) : Int)) (hn8 : nw ≤ 8) {pane : Nat} (hpn : pane < 16) {er eb ec : Int} (hr9 : 0 ≤ er ∧ er ≤ 99) (hb9 : 0 ≤ eb ∧ eb ≤ 99) (hc9 : 0 ≤ ec ∧ ec ≤ 99) {g : Nat → Int} (hg0 : g 0 = er - ρ (9 + 3 * pane)) (hg1 : g 1 = eb - ρ (9 + 3 * pane + 1)) (hg2 : g 2 = ec - ρ (9 + 3 * pane + 2))  {Q : Option Value → px_H → Prop} (kx : ∀ (w : Nat) (v6 : Value) (M : Nat → Nat → Int), px_qk sh [2, 13, 177, 178, 179] M0 M → (∀ j, j < 3 → M 178 j = g j) → (∀ w2, w2 < nw → M 177 (16 * w2) = (sp_mu lw ρ pane) w2) → px_R xs L d 121 (118, [.ref 175, .int (iI (((pane : Nat) : Int))), .int (iI (er)), .int (iI (eb)), .int (iI (ec)), .int (iI (((w : Nat) : Int))), v6], [], (sh, M)) Q)  : ∀ (mz : Nat) (w : Nat) (v6 : Value) (M : Nat → Nat → Int), nw - w = mz → px_qk sh [2, 13, 177, 178, 179] M0 M → (w ≤ nw) → (∀ j, j < 3 → M 178 j = g j) → (∀ w2, w2 < w → M 177 (16 * w2) = (sp_mu lw ρ pane) w2) → px_R xs L d 121 (64, [.ref 175, .int (iI (((pane : Nat) : Int))), .int (iI (er)), .int (iI (eb)), .int (iI (ec)), .int (iI (((w : Nat) : Int))), v6], [], (sh, M)) Q := by
  intro mz
  induction mz using Nat.strongRecOn with
  | _ mz ih =>
    intro w v6 M hm hq hw h78 hst
    have hsb := sp_stain_b lw ρ w pane
    refine rr_iload pf_121_64 rfl ?_
    refine rr_aload_n pf_121_66 rfl ?_
    refine rr_getR pf_121_67 po_121 pg_2_65 rfl (ws_175 hW) (by decide) (wr_175_3 hq.1) ?_
    refine vr_getI hq pf_121_70 po_121 pg_2_77 rfl (ws_3 hW) (by decide) (fun x1 hx1 rx1 => ?_)
    rw [hq.2.2 3 (by decide)] at hx1
    change x1 = rc M0 3 0 at hx1
    rw [hR] at hx1
    refine rr_icmp_ge 118 pf_121_73 (by decide) (by unfold rg; omega) rx1 (fun c2 => ?_) (fun c2 => ?_)
    · exact kx w _ M hq (h78) (by intro w2 hw2; exact hst w2 (by omega))
    · refine rr_aload_n pf_121_76 rfl ?_
      refine rr_getR pf_121_77 po_121 pg_2_22 rfl (ws_175 hW) (by decide) (wr_175_5 hq.1) ?_
      refine rr_iload pf_121_80 rfl ?_
      refine rr_bipush pf_121_82 (by decide) ?_
      refine rr_imul pf_121_84 ?_
      refine rr_aload_n pf_121_85 rfl ?_
      refine rr_getR pf_121_86 po_121 pg_2_65 rfl (ws_175 hW) (by decide) (wr_175_3 hq.1) ?_
      refine rr_iload pf_121_89 rfl ?_
      obtain ⟨M3, kq4, hcM3⟩ := ct_Church_isBarred (xs := xs) (L := L) (d := d) (cb := 3) (w := w) (by omega) hW hq.1 hq.2.1 (show px_ch 3 by unfold px_ch; decide) (by rw [((rc_eo hq.2.2 (by decide)).trans hR)]; exact hρ) (lw_eo hlw hq.2.2 (by decide) (by decide) (by decide)) (by omega)
      rw [((rc_eo hq.2.2 (by decide)).trans hR)] at hcM3
      have q4 := qk_trm hq kq4 (by decide)
      refine rr_cV1 pf_121_91 po_121 pc_2_97 (ws_3 hW) po_18 (by decide) rfl hcM3 ?_
      refine rr_ifb_eq 101 pf_121_94 (by decide) (fun c5 => ?_) (fun c5 => ?_)
      · have hbar := c5
        refine rr_aload_n pf_121_101 rfl ?_
        refine rr_getR pf_121_102 po_121 pg_2_65 rfl (ws_175 hW) (by decide) (wr_175_3 q4.1) ?_
        refine rr_iload pf_121_105 rfl ?_
        refine rr_iload_n pf_121_107 rfl ?_
        obtain ⟨M6, kq7, hcM6⟩ := ct_Church_stainOf (xs := xs) (L := L) (d := d) (cb := 3) (w := w) (p := pane) (by omega) hW q4.1 q4.2.1 (show px_ch 3 by unfold px_ch; decide) (by rw [((rc_eo q4.2.2 (by decide)).trans hR)]; exact hρ) (lw_eo hlw q4.2.2 (by decide) (by decide) (by decide)) (by omega) (by omega)
        rw [((rc_eo q4.2.2 (by decide)).trans hR)] at hcM6
        have q7 := qk_trm q4 kq7 (by decide)
        refine rr_cV2 pf_121_108 po_121 pc_2_80 (ws_3 hW) po_27 (by decide) rfl hcM6 ?_
        refine vr_iast (j := (16 * w)) hW q7 pf_121_111 (ws_177 hW) (by omega) (by omega) (by decide) (by unfold rg; omega) (by decide) (fun M8 eM8 q9 => ?_)
        refine rr_iinc pf_121_112 rfl (fun y => [.ref 175, .int (iI (((pane : Nat) : Int))), .int (iI (er)), .int (iI (eb)), .int (iI (ec)), .int (iI (y)), v6]) (fun _ => rfl) (fun y10 hy10 => ?_)
        refine rr_goto 64 pf_121_115 (by decide) ?_
        obtain ⟨nz11, hnz11, rfl⟩ : ∃ zz : Nat, zz = 1 + w ∧ y10 = ((zz : Nat) : Int) := ⟨1 + w, rfl, by omega⟩
        exact ih _ (by omega) nz11 _ M8 rfl q9 (by omega) (by intro j hj; rw [eM8, ask_ne (by decide), kq7.2.2 178 (by decide), kq4.2.2 178 (by decide)]; exact h78 j hj) (by
                      intro w2 hw2; rw [eM8, ask_up]; by_cases hz : w2 = w
                      · rw [if_pos (by omega), hz]; unfold sp_mu; rw [if_pos ⟨by omega, hbar⟩]
                      · rw [if_neg (by omega), kq7.2.2 177 (by decide), kq4.2.2 177 (by decide)]; exact hst w2 (by omega))
      · have hbar := c5
        refine rr_iconst pf_121_97 ?_
        refine rr_goto 111 pf_121_98 (by decide) ?_
        refine vr_iast (j := (16 * w)) hW q4 pf_121_111 (ws_177 hW) (by omega) (by omega) (by decide) (by unfold rg; omega) (by decide) (fun M12 eM12 q13 => ?_)
        refine rr_iinc pf_121_112 rfl (fun y => [.ref 175, .int (iI (((pane : Nat) : Int))), .int (iI (er)), .int (iI (eb)), .int (iI (ec)), .int (iI (y)), v6]) (fun _ => rfl) (fun y14 hy14 => ?_)
        refine rr_goto 64 pf_121_115 (by decide) ?_
        obtain ⟨nz15, hnz15, rfl⟩ : ∃ zz : Nat, zz = 1 + w ∧ y14 = ((zz : Nat) : Int) := ⟨1 + w, rfl, by omega⟩
        exact ih _ (by omega) nz15 _ M12 rfl q13 (by omega) (by intro j hj; rw [eM12, ask_ne (by decide), kq4.2.2 178 (by decide)]; exact h78 j hj) (by
                      intro w2 hw2; rw [eM12, ask_up]; by_cases hz : w2 = w
                      · rw [if_pos (by omega), hz]; unfold sp_mu; rw [if_neg (fun z => z.2 hbar)]
                      · rw [if_neg (by omega), kq4.2.2 177 (by decide)]; exact hst w2 (by omega))
theorem ct_Paper_prepareSermon {xs : Nat → Int} {L d : Nat} {sh : List (Nat × Nat)} {M0 : Nat → Nat → Int} (hd : 7 ≤ d) (hW : px_W0 <+: sh) (hF : px_Fx M0) (hG : px_RG sh M0)  {ρ : Nat → Int} (hR : rc M0 3 = ρ) (hρ : sp_ok ρ) {lw : List sp_C} (hlw : px_lw sh M0 3 lw) {nw : Nat} (hn : ρ 0 = ((nw : Nat) : Int)) (hn8 : nw ≤ 8) {pane : Nat} (hpn : pane < 16) {er eb ec : Int} (hr9 : 0 ≤ er ∧ er ≤ 99) (hb9 : 0 ≤ eb ∧ eb ≤ 99) (hc9 : 0 ≤ ec ∧ ec ≤ 99) {g : Nat → Int} (hg0 : g 0 = er - ρ (9 + 3 * pane)) (hg1 : g 1 = eb - ρ (9 + 3 * pane + 1)) (hg2 : g 2 = ec - ρ (9 + 3 * pane + 2)) : ∃ v M, (px_qk sh [2, 13, 177, 178, 179] M0 M ∧ (v = if g 0 < 0 ∨ g 1 < 0 ∨ g 2 < 0 ∨ 100000000 ≤ alF (sp_mu lw ρ pane) (fun w => ρ (69 + w)) 0 g then -1 else alF (sp_mu lw ρ pane) (fun w => ρ (69 + w)) 0 g) ∧ (0 ≤ v → (∀ j, j < 3 → M 178 j = g j) ∧ (∀ w, w < nw → M 177 (16 * w) = (sp_mu lw ρ pane) w) ∧ gB g ∧ (∀ h2 x : Nat, h2 < 3 → (x : Int) ≤ g h2 → M 179 (100 * h2 + x) = min 1000000 (lvl (sp_mu lw ρ pane) (fun w => ρ (69 + w)) h2 8 x)))) ∧ px_Cl xs L d 121 [.ref 175, .int (iI (((pane : Nat) : Int))), .int (iI (er)), .int (iI (eb)), .int (iI (ec))] (sh, M0) (some (.int (iI v))) (sh, M) := by
  obtain ⟨d, rfl⟩ : ∃ e, d = e + 1 := ⟨d - 1, by omega⟩
  have q0 : px_qk sh [2, 13, 177, 178, 179] M0 M0 := ⟨hF, hG, eo_rf⟩
  refine vc_i (Nat.le_of_ble_eq_true rfl) ?_
  show px_R xs L d 121 (0, [.ref 175, .int (iI (((pane : Nat) : Int))), .int (iI (er)), .int (iI (eb)), .int (iI (ec)), px_jk, px_jk], [], (sh, M0)) (fun r h' => ∃ v M', r = some (.int (iI v)) ∧ h' = (sh, M') ∧ px_qk sh [2, 13, 177, 178, 179] M0 M' ∧ (v = if g 0 < 0 ∨ g 1 < 0 ∨ g 2 < 0 ∨ 100000000 ≤ alF (sp_mu lw ρ pane) (fun w => ρ (69 + w)) 0 g then -1 else alF (sp_mu lw ρ pane) (fun w => ρ (69 + w)) 0 g) ∧ (0 ≤ v → (∀ j, j < 3 → M' 178 j = g j) ∧ (∀ w, w < nw → M' 177 (16 * w) = (sp_mu lw ρ pane) w) ∧ gB g ∧ (∀ h2 x : Nat, h2 < 3 → (x : Int) ≤ g h2 → M' 179 (100 * h2 + x) = min 1000000 (lvl (sp_mu lw ρ pane) (fun w => ρ (69 + w)) h2 8 x))))
  refine rr_aload_n pf_121_0 rfl ?_
  refine rr_getR pf_121_1 po_121 pg_2_25 rfl (ws_175 hW) (by decide) (wr_175_6 q0.1) ?_
  refine rr_iconst pf_121_4 ?_
  refine rr_iload_n pf_121_5 rfl ?_
  refine rr_aload_n pf_121_6 rfl ?_
  refine rr_getR pf_121_7 po_121 pg_2_65 rfl (ws_175 hW) (by decide) (wr_175_3 q0.1) ?_
  refine rr_getR pf_121_10 po_121 pg_2_88 rfl (ws_3 hW) (by decide) (wr_3_0 q0.1) ?_
  refine rr_iload_n pf_121_13 rfl ?_
  refine rr_iconst pf_121_14 ?_
  have hz1 := ct_Nave_hueOf (xs := xs) (L := L) (d := d) (nb := 4) (p := ((pane : Nat) : Int)) (h := 0) (by omega) hW q0.1 q0.2.1 (show px_nv 4 by unfold px_nv; decide) (by omega) (by omega)
  rw [show M0 (4 + 1) (((pane : Nat) : Int) * 3 + 0).toNat = rc M0 3 (9 + (((pane : Nat) : Int) * 3 + 0).toNat) from (rc_hue (cb := 3) (by omega)).symm] at hz1
  refine rr_cV2 pf_121_15 po_121 pc_2_92 (ws_4 hW) po_32 (by decide) rfl hz1 ?_
  have hhu0 : rc M0 3 (9 + (((pane : Nat) : Int) * 3 + 0).toNat) = ρ (9 + 3 * pane) := by rw [show ((((pane : Nat) : Int) * 3 + 0)).toNat = 3 * pane by omega, hR]
  have hbb0 := sp_hue_b9 hρ (i := 3 * pane) (by omega)
  refine rr_isub pf_121_18 ?_
  refine vr_iast (j := 0) hW q0 pf_121_19 (ws_178 hW) (by omega) (by omega) (by decide) (by unfold rg; omega) (by decide) (fun M2 eM2 q3 => ?_)
  refine rr_aload_n pf_121_20 rfl ?_
  refine rr_getR pf_121_21 po_121 pg_2_25 rfl (ws_175 hW) (by decide) (wr_175_6 q3.1) ?_
  refine rr_iconst pf_121_24 ?_
  refine rr_iload_n pf_121_25 rfl ?_
  refine rr_aload_n pf_121_26 rfl ?_
  refine rr_getR pf_121_27 po_121 pg_2_65 rfl (ws_175 hW) (by decide) (wr_175_3 q3.1) ?_
  refine rr_getR pf_121_30 po_121 pg_2_88 rfl (ws_3 hW) (by decide) (wr_3_0 q3.1) ?_
  refine rr_iload_n pf_121_33 rfl ?_
  refine rr_iconst pf_121_34 ?_
  have hz4 := ct_Nave_hueOf (xs := xs) (L := L) (d := d) (nb := 4) (p := ((pane : Nat) : Int)) (h := 1) (by omega) hW q3.1 q3.2.1 (show px_nv 4 by unfold px_nv; decide) (by omega) (by omega)
  rw [show M2 (4 + 1) (((pane : Nat) : Int) * 3 + 1).toNat = rc M2 3 (9 + (((pane : Nat) : Int) * 3 + 1).toNat) from (rc_hue (cb := 3) (by omega)).symm] at hz4
  refine rr_cV2 pf_121_35 po_121 pc_2_92 (ws_4 hW) po_32 (by decide) rfl hz4 ?_
  have hhu1 : rc M2 3 (9 + (((pane : Nat) : Int) * 3 + 1).toNat) = ρ (9 + 3 * pane + 1) := by rw [show ((((pane : Nat) : Int) * 3 + 1)).toNat = 3 * pane + 1 by omega, ← Nat.add_assoc, ((rc_eo q3.2.2 (by decide)).trans hR)]
  have hbb1 := sp_hue_b9 hρ (i := 3 * pane + 1) (by omega)
  rw [← Nat.add_assoc] at hbb1
  refine rr_isub pf_121_38 ?_
  refine vr_iast (j := 1) hW q3 pf_121_39 (ws_178 hW) (by omega) (by omega) (by decide) (by unfold rg; omega) (by decide) (fun M5 eM5 q6 => ?_)
  refine rr_aload_n pf_121_40 rfl ?_
  refine rr_getR pf_121_41 po_121 pg_2_25 rfl (ws_175 hW) (by decide) (wr_175_6 q6.1) ?_
  refine rr_iconst pf_121_44 ?_
  refine rr_iload pf_121_45 rfl ?_
  refine rr_aload_n pf_121_47 rfl ?_
  refine rr_getR pf_121_48 po_121 pg_2_65 rfl (ws_175 hW) (by decide) (wr_175_3 q6.1) ?_
  refine rr_getR pf_121_51 po_121 pg_2_88 rfl (ws_3 hW) (by decide) (wr_3_0 q6.1) ?_
  refine rr_iload_n pf_121_54 rfl ?_
  refine rr_iconst pf_121_55 ?_
  have hz7 := ct_Nave_hueOf (xs := xs) (L := L) (d := d) (nb := 4) (p := ((pane : Nat) : Int)) (h := 2) (by omega) hW q6.1 q6.2.1 (show px_nv 4 by unfold px_nv; decide) (by omega) (by omega)
  rw [show M5 (4 + 1) (((pane : Nat) : Int) * 3 + 2).toNat = rc M5 3 (9 + (((pane : Nat) : Int) * 3 + 2).toNat) from (rc_hue (cb := 3) (by omega)).symm] at hz7
  refine rr_cV2 pf_121_56 po_121 pc_2_92 (ws_4 hW) po_32 (by decide) rfl hz7 ?_
  have hhu2 : rc M5 3 (9 + (((pane : Nat) : Int) * 3 + 2).toNat) = ρ (9 + 3 * pane + 2) := by rw [show ((((pane : Nat) : Int) * 3 + 2)).toNat = 3 * pane + 2 by omega, ← Nat.add_assoc, ((rc_eo q6.2.2 (by decide)).trans hR)]
  have hbb2 := sp_hue_b9 hρ (i := 3 * pane + 2) (by omega)
  rw [← Nat.add_assoc] at hbb2
  refine rr_isub pf_121_59 ?_
  refine vr_iast (j := 2) hW q6 pf_121_60 (ws_178 hW) (by omega) (by omega) (by decide) (by unfold rg; omega) (by decide) (fun M8 eM8 q9 => ?_)
  refine rr_iconst pf_121_61 ?_
  refine rr_istore pf_121_62 (fun y => [.ref 175, .int (iI (((pane : Nat) : Int))), .int (iI (er)), .int (iI (eb)), .int (iI (ec)), .int (iI (y)), px_jk]) (Nat.le_of_ble_eq_true rfl) (fun _ => rfl) (fun y10 hy10 => ?_)
  obtain ⟨nz11, hnz11, rfl⟩ : ∃ zz : Nat, zz = 0 ∧ y10 = ((zz : Nat) : Int) := ⟨0, rfl, by omega⟩
  refine lp_Paper_prepareSermon_64 (xs := xs) (L := L) (d := d) (by omega) hW hR hρ hlw hn hn8 hpn hr9 hb9 hc9 hg0 hg1 hg2 (fun w_12 v15 M13 q14 x78_M13 xst_M13 => ?_) _ nz11 _ M8 rfl q9 (by omega) (by
          intro j hj; rcases (show j = 0 ∨ j = 1 ∨ j = 2 by omega) with rfl | rfl | rfl
          · rw [eM8, up_ne (by decide), eM5, up_ne (by decide), eM2, up_s]; omega
          · rw [eM8, up_ne (by decide), eM5, up_s]; omega
          · rw [eM8, up_s]; omega) (by intro w2 hw2; exfalso; omega)
  refine rr_iconst pf_121_118 ?_
  refine rr_istore pf_121_119 (fun y => [.ref 175, .int (iI (((pane : Nat) : Int))), .int (iI (er)), .int (iI (eb)), .int (iI (ec)), .int (iI (y)), v15]) (Nat.le_of_ble_eq_true rfl) (fun _ => rfl) (fun y16 hy16 => ?_)
  have hgl : ∀ j, j < 3 → g j ≤ 99 := by
    intro j hj; rcases (show j = 0 ∨ j = 1 ∨ j = 2 by omega) with rfl | rfl | rfl <;> omega
  refine rr_iconst pf_121_121 ?_
  refine rr_istore pf_121_122 (fun y => [.ref 175, .int (iI (((pane : Nat) : Int))), .int (iI (er)), .int (iI (eb)), .int (iI (ec)), .int (iI (y16)), .int (iI (y))]) (Nat.le_of_ble_eq_true rfl) (fun _ => rfl) (fun y17 hy17 => ?_)
  obtain ⟨nz18, hnz18, rfl⟩ : ∃ zz : Nat, zz = 0 ∧ y17 = ((zz : Nat) : Int) := ⟨0, rfl, by omega⟩
  refine lp_Paper_prepareSermon_124 (xs := xs) (L := L) (d := d) (by omega) hW hR hρ hlw hn hn8 hpn hr9 hb9 hc9 hg0 hg1 hg2 hgl (fun al_19 h_20  M21 q22 x78_M21 xst_M21 xps_M21 xft_M21 xal_M21 xab_M21 => ?_) (fun _ _ h => h) _ y16 nz18 M13 rfl q14 (by omega) (x78_M13) (xst_M13) (by intro j hj; exfalso; omega) (by intro h2 x2 hh2; exfalso; omega) (by rw [show nz18 = 0 by omega]; exact hy16)
  refine rr_iload pf_121_159 rfl ?_
  refine rr_ldc pf_121_161 po_121 pk_2_105 ?_
  refine rr_icmp_lt 170 pf_121_163 (by decide) (by unfold rg; omega) (by unfold rg; omega) (fun c23 => ?_) (fun c23 => ?_)
  · refine rr_iload pf_121_170 rfl ?_
    refine rr_iret pf_121_172 pt_121 ⟨_, M21, rfl, rfl, q22, (by
              have hcf := alC_F (mu := (sp_mu lw ρ pane)) (hu := (fun w => ρ (69 + w))) (g := g) (fun j hj => ⟨xps_M21 j hj, hgl j hj⟩)
              have p0 := xps_M21 0 (by omega)
              have p1 := xps_M21 1 (by omega)
              have p2 := xps_M21 2 (by omega)
              rw [if_neg (by omega)]; omega), (by intro _; exact ⟨x78_M21, xst_M21, fun j hj => ⟨xps_M21 j hj, hgl j hj⟩, xft_M21⟩)⟩
  · refine rr_iconst pf_121_166 ?_
    refine rr_goto 172 pf_121_167 (by decide) ?_
    refine rr_iret pf_121_172 pt_121 ⟨_, M21, rfl, rfl, q22, (by
              have hcf := alC_F (mu := (sp_mu lw ρ pane)) (hu := (fun w => ρ (69 + w))) (g := g) (fun j hj => ⟨xps_M21 j hj, hgl j hj⟩)
              have p0 := xps_M21 0 (by omega)
              have p1 := xps_M21 1 (by omega)
              have p2 := xps_M21 2 (by omega)
              rw [if_pos (by omega)]), (by intro hv; exfalso; omega)⟩
theorem ct_S_sermon1 {xs : Nat → Int} {L d : Nat} {sh : List (Nat × Nat)} {M0 : Nat → Nat → Int} (hd : 8 ≤ d) (hW : px_W0 <+: sh) (hF : px_Fx M0) (hG : px_RG sh M0)  {ρ : Nat → Int} (hR : rc M0 3 = ρ) (hρ : sp_ok ρ) {lw : List sp_C} (hlw : px_lw sh M0 3 lw) {nw : Nat} (hn : ρ 0 = ((nw : Nat) : Int)) (hn8 : nw ≤ 8) {pane : Nat} (hpn : pane < 16) {er eb ec : Int} (hr9 : 0 ≤ er ∧ er ≤ 99) (hb9 : 0 ≤ eb ∧ eb ≤ 99) (hc9 : 0 ≤ ec ∧ ec ≤ 99) {g : Nat → Int} (hg0 : g 0 = er - ρ (9 + 3 * pane)) (hg1 : g 1 = eb - ρ (9 + 3 * pane + 1)) (hg2 : g 2 = ec - ρ (9 + 3 * pane + 2)) {i : Int} (hi0 : rg i) (hi1 : -1 ≤ i) : ∃ v M, (px_qk sh [2, 13, 177, 178, 179] M0 M ∧ (v = (if g 0 < 0 ∨ g 1 < 0 ∨ g 2 < 0 then -1 else if 100000000 ≤ alF (sp_mu lw ρ pane) (fun w => ρ (69 + w)) 0 g ∨ alF (sp_mu lw ρ pane) (fun w => ρ (69 + w)) 0 g ≤ i then -1 else if i = -1 then alF (sp_mu lw ρ pane) (fun w => ρ (69 + w)) 0 g else (seG (sp_mu lw ρ pane) (fun w => ρ (69 + w)) nw g (i + 1).toNat).2))) ∧ px_Cl xs L d 120 [.ref 0, .int (iI (((pane : Nat) : Int))), .int (iI (er)), .int (iI (eb)), .int (iI (ec)), .int (iI (i))] (sh, M0) (some (.int (iI v))) (sh, M) := by
  obtain ⟨d, rfl⟩ : ∃ e, d = e + 1 := ⟨d - 1, by omega⟩
  have q0 : px_qk sh [2, 13, 177, 178, 179] M0 M0 := ⟨hF, hG, eo_rf⟩
  have hab := alF_b (sp_mu lw ρ pane) (fun w => ρ (69 + w)) 0 g
  refine vc_i (Nat.le_of_ble_eq_true rfl) ?_
  show px_R xs L d 120 (0, [.ref 0, .int (iI (((pane : Nat) : Int))), .int (iI (er)), .int (iI (eb)), .int (iI (ec)), .int (iI (i)), px_jk], [], (sh, M0)) (fun r h' => ∃ v M', r = some (.int (iI v)) ∧ h' = (sh, M') ∧ px_qk sh [2, 13, 177, 178, 179] M0 M' ∧ (v = (if g 0 < 0 ∨ g 1 < 0 ∨ g 2 < 0 then -1 else if 100000000 ≤ alF (sp_mu lw ρ pane) (fun w => ρ (69 + w)) 0 g ∨ alF (sp_mu lw ρ pane) (fun w => ρ (69 + w)) 0 g ≤ i then -1 else if i = -1 then alF (sp_mu lw ρ pane) (fun w => ρ (69 + w)) 0 g else (seG (sp_mu lw ρ pane) (fun w => ρ (69 + w)) nw g (i + 1).toNat).2)))
  refine rr_iload_n pf_120_0 rfl ?_
  refine rr_cS1 pf_120_1 po_120 pc_8_128 (by decide) rfl (ct_S_isPane (by omega) (by unfold rg; omega)) ?_
  refine rr_ifb_eq 29 pf_120_4 (by decide) (fun c1 => ?_) (fun c1 => ?_)
  · exfalso; omega
  · refine rr_iload_n pf_120_7 rfl ?_
    refine rr_cS1 pf_120_8 po_120 pc_8_274 (by decide) rfl (ct_S_isAmount (by omega) (by unfold rg; omega)) ?_
    refine rr_ifb_eq 29 pf_120_11 (by decide) (fun c2 => ?_) (fun c2 => ?_)
    · exfalso; omega
    · refine rr_iload_n pf_120_14 rfl ?_
      refine rr_cS1 pf_120_15 po_120 pc_8_274 (by decide) rfl (ct_S_isAmount (by omega) (by unfold rg; omega)) ?_
      refine rr_ifb_eq 29 pf_120_18 (by decide) (fun c3 => ?_) (fun c3 => ?_)
      · exfalso; omega
      · refine rr_iload pf_120_21 rfl ?_
        refine rr_cS1 pf_120_23 po_120 pc_8_274 (by decide) rfl (ct_S_isAmount (by omega) (by unfold rg; omega)) ?_
        refine rr_ifb_ne 31 pf_120_26 (by decide) (fun c4 => ?_) (fun c4 => ?_)
        · refine rr_aload_n pf_120_31 rfl ?_
          refine rr_getR pf_120_32 po_120 pg_8_57 rfl (ws_0 hW) (by decide) (wr_0_7 q0.1) ?_
          refine rr_iload_n pf_120_35 rfl ?_
          refine rr_iload_n pf_120_36 rfl ?_
          refine rr_iload_n pf_120_37 rfl ?_
          refine rr_iload pf_120_38 rfl ?_
          obtain ⟨r7, M5, ⟨kq6, pv_M5, pok_M5⟩, hcM5⟩ := ct_Paper_prepareSermon (xs := xs) (L := L) (d := d) (pane := pane) (er := er) (eb := eb) (ec := ec) (lw := lw) (nw := nw) (g := g) (by omega) hW q0.1 q0.2.1 hR hρ hlw hn hn8 hpn hr9 hb9 hc9 hg0 hg1 hg2
          have q6 := qk_trm q0 kq6 (by decide)
          refine rr_cV4 pf_120_40 po_120 pc_8_277 (ws_175 hW) po_121 (by decide) rfl hcM5 ?_
          have hok := pok_M5
          have hvb : -1 ≤ r7 ∧ r7 ≤ 300000000 := by
            rw [pv_M5]; split <;> omega
          refine rr_istore pf_120_43 (fun y => [.ref 0, .int (iI (((pane : Nat) : Int))), .int (iI (er)), .int (iI (eb)), .int (iI (ec)), .int (iI (i)), .int (iI (y))]) (Nat.le_of_ble_eq_true rfl) (fun _ => rfl) (fun y8 hy8 => ?_)
          refine rr_iload pf_120_45 rfl ?_
          refine rr_iconst pf_120_47 ?_
          refine rr_icmp_eq 57 pf_120_48 (by decide) hi0 (by unfold rg; omega) (fun c9 => ?_) (fun c9 => ?_)
          · refine rr_iload pf_120_57 rfl ?_
            refine rr_iret pf_120_59 pt_120 ⟨_, M5, rfl, rfl, q6, (by
                              have hpv := pv_M5
                              split at hpv
                              · rename_i hc; rcases (show (g 0 < 0 ∨ g 1 < 0 ∨ g 2 < 0) ∨ 100000000 ≤ alF (sp_mu lw ρ pane) (fun w => ρ (69 + w)) 0 g by omega) with z | z
                                · rw [if_pos z]; omega
                                · split
                                  · omega
                                  · rw [if_pos (by omega)]; omega
                              · rw [if_neg (by omega), if_neg (by omega), if_pos (by omega)]; omega)⟩
          · refine rr_iload pf_120_51 rfl ?_
            refine rr_iconst pf_120_53 ?_
            refine rr_icmp_ne 60 pf_120_54 (by decide) (by unfold rg; omega) (by unfold rg; omega) (fun c10 => ?_) (fun c10 => ?_)
            · refine rr_iload pf_120_60 rfl ?_
              refine rr_iconst pf_120_62 ?_
              refine rr_iload pf_120_63 rfl ?_
              refine rr_iconst pf_120_65 ?_
              refine rr_isub pf_120_66 ?_
              refine rr_cS3 pf_120_67 po_120 pc_8_95 (by decide) rfl (ct_S_within (by omega) hi0 (by unfold rg; omega) (by unfold rg; omega)) ?_
              refine rr_ifb_eq 85 pf_120_70 (by decide) (fun c11 => ?_) (fun c11 => ?_)
              · refine rr_iconst pf_120_85 ?_
                refine rr_iret pf_120_86 pt_120 ⟨_, M5, rfl, rfl, q6, (by
                                      have hpv := pv_M5
                                      split at hpv
                                      · exfalso; omega
                                      · rw [if_neg (by omega), if_pos (by omega)])⟩
              · refine rr_aload_n pf_120_73 rfl ?_
                refine rr_getR pf_120_74 po_120 pg_8_57 rfl (ws_0 hW) (by decide) (wr_0_7 q6.1) ?_
                refine rr_iload pf_120_77 rfl ?_
                have hfin : alF (sp_mu lw ρ pane) (fun w => ρ (69 + w)) 0 g < 100000000 := by
                  have hpv := pv_M5
                  split at hpv
                  · exfalso; omega
                  · omega
                have hlt : i < alF (sp_mu lw ρ pane) (fun w => ρ (69 + w)) 0 g := by
                  have hpv := pv_M5
                  split at hpv
                  · exfalso; omega
                  · omega
                obtain ⟨r14, M12, ⟨kq13, pv_M12⟩, hcM12⟩ := ct_Paper_wordOfSermon (xs := xs) (L := L) (d := d) (i := i.toNat) (mu := (sp_mu lw ρ pane)) (nw := nw) (g0 := g) (by omega) hW q6.1 q6.2.1 ((rc_eo q6.2.2 (by decide)).trans hR) hρ (mu_b lw ρ pane) (mu_z hn) hn hn8 (hok (by omega)).2.1 (hok (by omega)).2.2.1 (hok (by omega)).1 (hok (by omega)).2.2.2 hfin (by omega)
                rw [show ((i.toNat : Nat) : Int) = i by omega] at hcM12
                have q13 := qk_trm q6 kq13 (by decide)
                refine rr_cV1 pf_120_79 po_120 pc_8_281 (ws_175 hW) po_123 (by decide) rfl hcM12 ?_
                refine rr_goto 86 pf_120_82 (by decide) ?_
                refine rr_iret pf_120_86 pt_120 ⟨_, M12, rfl, rfl, q13, (by
                                      have hpv := pv_M5
                                      split at hpv
                                      · exfalso; omega
                                      · rw [if_neg (by omega), if_neg (by omega), if_neg (by omega), show (i + 1).toNat = i.toNat + 1 by omega]; exact pv_M12)⟩
            · refine rr_iload pf_120_57 rfl ?_
              refine rr_iret pf_120_59 pt_120 ⟨_, M5, rfl, rfl, q6, (by
                                  have hpv := pv_M5
                                  split at hpv
                                  · rename_i hc; rcases (show (g 0 < 0 ∨ g 1 < 0 ∨ g 2 < 0) ∨ 100000000 ≤ alF (sp_mu lw ρ pane) (fun w => ρ (69 + w)) 0 g by omega) with z | z
                                    · rw [if_pos z]; omega
                                    · split
                                      · omega
                                      · rw [if_pos (by omega)]; omega
                                  · exfalso; omega)⟩
        · exfalso; omega
theorem ct_S_sermon0 {xs : Nat → Int} {L d : Nat} {sh : List (Nat × Nat)} {M0 : Nat → Nat → Int} (hd : 3 ≤ d) (hW : px_W0 <+: sh) (hF : px_Fx M0) (hG : px_RG sh M0)  {pn er eb ec i : Int} (hpn0 : rg pn) (her0 : rg er) (heb0 : rg eb) (hec0 : rg ec) (hi0 : rg i) (hx : ¬ ((0 ≤ pn ∧ pn ≤ 15) ∧ (0 ≤ er ∧ er ≤ 99) ∧ (0 ≤ eb ∧ eb ≤ 99) ∧ (0 ≤ ec ∧ ec ≤ 99))) : ∃ v M, (px_qk sh [] M0 M ∧ (v = -1)) ∧ px_Cl xs L d 120 [.ref 0, .int (iI (pn)), .int (iI (er)), .int (iI (eb)), .int (iI (ec)), .int (iI (i))] (sh, M0) (some (.int (iI v))) (sh, M) := by
  obtain ⟨d, rfl⟩ : ∃ e, d = e + 1 := ⟨d - 1, by omega⟩
  have q0 : px_qk sh [] M0 M0 := ⟨hF, hG, eo_rf⟩
  refine vc_i (Nat.le_of_ble_eq_true rfl) ?_
  show px_R xs L d 120 (0, [.ref 0, .int (iI (pn)), .int (iI (er)), .int (iI (eb)), .int (iI (ec)), .int (iI (i)), px_jk], [], (sh, M0)) (fun r h' => ∃ v M', r = some (.int (iI v)) ∧ h' = (sh, M') ∧ px_qk sh [] M0 M' ∧ v = -1)
  refine rr_iload_n pf_120_0 rfl ?_
  refine rr_cS1 pf_120_1 po_120 pc_8_128 (by decide) rfl (ct_S_isPane (by omega) hpn0) ?_
  refine rr_ifb_eq 29 pf_120_4 (by decide) (fun c1 => ?_) (fun c1 => ?_)
  · refine rr_iconst pf_120_29 ?_
    refine rr_iret pf_120_30 pt_120 ⟨_, M0, rfl, rfl, q0, (by rfl)⟩
  · refine rr_iload_n pf_120_7 rfl ?_
    refine rr_cS1 pf_120_8 po_120 pc_8_274 (by decide) rfl (ct_S_isAmount (by omega) her0) ?_
    refine rr_ifb_eq 29 pf_120_11 (by decide) (fun c2 => ?_) (fun c2 => ?_)
    · refine rr_iconst pf_120_29 ?_
      refine rr_iret pf_120_30 pt_120 ⟨_, M0, rfl, rfl, q0, (by rfl)⟩
    · refine rr_iload_n pf_120_14 rfl ?_
      refine rr_cS1 pf_120_15 po_120 pc_8_274 (by decide) rfl (ct_S_isAmount (by omega) heb0) ?_
      refine rr_ifb_eq 29 pf_120_18 (by decide) (fun c3 => ?_) (fun c3 => ?_)
      · refine rr_iconst pf_120_29 ?_
        refine rr_iret pf_120_30 pt_120 ⟨_, M0, rfl, rfl, q0, (by rfl)⟩
      · refine rr_iload pf_120_21 rfl ?_
        refine rr_cS1 pf_120_23 po_120 pc_8_274 (by decide) rfl (ct_S_isAmount (by omega) hec0) ?_
        refine rr_ifb_ne 31 pf_120_26 (by decide) (fun c4 => ?_) (fun c4 => ?_)
        · exfalso; omega
        · refine rr_iconst pf_120_29 ?_
          refine rr_iret pf_120_30 pt_120 ⟨_, M0, rfl, rfl, q0, (by rfl)⟩
theorem ct_S_sermon2 {xs : Nat → Int} {L d : Nat} {sh : List (Nat × Nat)} {M0 : Nat → Nat → Int} (hd : 8 ≤ d) (hW : px_W0 <+: sh) (hF : px_Fx M0) (hG : px_RG sh M0)  {ρ : Nat → Int} (hR : rc M0 3 = ρ) (hρ : sp_ok ρ) {lw : List sp_C} (hlw : px_lw sh M0 3 lw) {nw : Nat} (hn : ρ 0 = ((nw : Nat) : Int)) (hn8 : nw ≤ 8) {pane : Nat} (hpn : pane < 16) {er eb ec : Int} (hr9 : 0 ≤ er ∧ er ≤ 99) (hb9 : 0 ≤ eb ∧ eb ≤ 99) (hc9 : 0 ≤ ec ∧ ec ≤ 99) {g : Nat → Int} (hg0 : g 0 = er - ρ (9 + 3 * pane)) (hg1 : g 1 = eb - ρ (9 + 3 * pane + 1)) (hg2 : g 2 = ec - ρ (9 + 3 * pane + 2)) {i : Int} (hi0 : rg i) (hi1 : i < -1) : ∃ v M, (px_qk sh [2, 13, 177, 178, 179] M0 M ∧ (v = -1)) ∧ px_Cl xs L d 120 [.ref 0, .int (iI (((pane : Nat) : Int))), .int (iI (er)), .int (iI (eb)), .int (iI (ec)), .int (iI (i))] (sh, M0) (some (.int (iI v))) (sh, M) := by
  obtain ⟨d, rfl⟩ : ∃ e, d = e + 1 := ⟨d - 1, by omega⟩
  have q0 : px_qk sh [2, 13, 177, 178, 179] M0 M0 := ⟨hF, hG, eo_rf⟩
  have hab := alF_b (sp_mu lw ρ pane) (fun w => ρ (69 + w)) 0 g
  refine vc_i (Nat.le_of_ble_eq_true rfl) ?_
  show px_R xs L d 120 (0, [.ref 0, .int (iI (((pane : Nat) : Int))), .int (iI (er)), .int (iI (eb)), .int (iI (ec)), .int (iI (i)), px_jk], [], (sh, M0)) (fun r h' => ∃ v M', r = some (.int (iI v)) ∧ h' = (sh, M') ∧ px_qk sh [2, 13, 177, 178, 179] M0 M' ∧ v = -1)
  refine rr_iload_n pf_120_0 rfl ?_
  refine rr_cS1 pf_120_1 po_120 pc_8_128 (by decide) rfl (ct_S_isPane (by omega) (by unfold rg; omega)) ?_
  refine rr_ifb_eq 29 pf_120_4 (by decide) (fun c1 => ?_) (fun c1 => ?_)
  · exfalso; omega
  · refine rr_iload_n pf_120_7 rfl ?_
    refine rr_cS1 pf_120_8 po_120 pc_8_274 (by decide) rfl (ct_S_isAmount (by omega) (by unfold rg; omega)) ?_
    refine rr_ifb_eq 29 pf_120_11 (by decide) (fun c2 => ?_) (fun c2 => ?_)
    · exfalso; omega
    · refine rr_iload_n pf_120_14 rfl ?_
      refine rr_cS1 pf_120_15 po_120 pc_8_274 (by decide) rfl (ct_S_isAmount (by omega) (by unfold rg; omega)) ?_
      refine rr_ifb_eq 29 pf_120_18 (by decide) (fun c3 => ?_) (fun c3 => ?_)
      · exfalso; omega
      · refine rr_iload pf_120_21 rfl ?_
        refine rr_cS1 pf_120_23 po_120 pc_8_274 (by decide) rfl (ct_S_isAmount (by omega) (by unfold rg; omega)) ?_
        refine rr_ifb_ne 31 pf_120_26 (by decide) (fun c4 => ?_) (fun c4 => ?_)
        · refine rr_aload_n pf_120_31 rfl ?_
          refine rr_getR pf_120_32 po_120 pg_8_57 rfl (ws_0 hW) (by decide) (wr_0_7 q0.1) ?_
          refine rr_iload_n pf_120_35 rfl ?_
          refine rr_iload_n pf_120_36 rfl ?_
          refine rr_iload_n pf_120_37 rfl ?_
          refine rr_iload pf_120_38 rfl ?_
          obtain ⟨r7, M5, ⟨kq6, pv_M5, pok_M5⟩, hcM5⟩ := ct_Paper_prepareSermon (xs := xs) (L := L) (d := d) (pane := pane) (er := er) (eb := eb) (ec := ec) (lw := lw) (nw := nw) (g := g) (by omega) hW q0.1 q0.2.1 hR hρ hlw hn hn8 hpn hr9 hb9 hc9 hg0 hg1 hg2
          have q6 := qk_trm q0 kq6 (by decide)
          refine rr_cV4 pf_120_40 po_120 pc_8_277 (ws_175 hW) po_121 (by decide) rfl hcM5 ?_
          have hvb : -1 ≤ r7 ∧ r7 ≤ 300000000 := by
            rw [pv_M5]; split <;> omega
          refine rr_istore pf_120_43 (fun y => [.ref 0, .int (iI (((pane : Nat) : Int))), .int (iI (er)), .int (iI (eb)), .int (iI (ec)), .int (iI (i)), .int (iI (y))]) (Nat.le_of_ble_eq_true rfl) (fun _ => rfl) (fun y8 hy8 => ?_)
          refine rr_iload pf_120_45 rfl ?_
          refine rr_iconst pf_120_47 ?_
          refine rr_icmp_eq 57 pf_120_48 (by decide) hi0 (by unfold rg; omega) (fun c9 => ?_) (fun c9 => ?_)
          · exfalso; omega
          · refine rr_iload pf_120_51 rfl ?_
            refine rr_iconst pf_120_53 ?_
            refine rr_icmp_ne 60 pf_120_54 (by decide) (by unfold rg; omega) (by unfold rg; omega) (fun c10 => ?_) (fun c10 => ?_)
            · refine rr_iload pf_120_60 rfl ?_
              refine rr_iconst pf_120_62 ?_
              refine rr_iload pf_120_63 rfl ?_
              refine rr_iconst pf_120_65 ?_
              refine rr_isub pf_120_66 ?_
              refine rr_cS3 pf_120_67 po_120 pc_8_95 (by decide) rfl (ct_S_within (by omega) hi0 (by unfold rg; omega) (by unfold rg; omega)) ?_
              refine rr_ifb_eq 85 pf_120_70 (by decide) (fun c11 => ?_) (fun c11 => ?_)
              · refine rr_iconst pf_120_85 ?_
                refine rr_iret pf_120_86 pt_120 ⟨_, M5, rfl, rfl, q6, (by rfl)⟩
              · exfalso; omega
            · refine rr_iload pf_120_57 rfl ?_
              refine rr_iret pf_120_59 pt_120 ⟨_, M5, rfl, rfl, q6, (by omega)⟩
        · exfalso; omega

/-! sermons: the reference's table and search, as functions -/
def ffT (prev : Nat → Int) (m : Nat) (on : Bool) : Nat → Nat → Int
  | 0, _ => 0
  | k + 1, x => if x = k then (if on = true ∧ m ≤ k then min (ffT prev m on k (k - m) + 1) (prev k) else prev k) else ffT prev m on k x
theorem ffT_st {prev : Nat → Int} {m : Nat} {on : Bool} {x : Nat} : ∀ k, x < k → ffT prev m on k x = ffT prev m on (x + 1) x := by
  intro k
  induction k with
  | zero => intro h; omega
  | succ k ih =>
    intro h
    by_cases e : x = k
    · rw [e]
    · rw [ffT, if_neg e]; exact ih (by omega)
/-- by level: 8 less the word -/
def lvl (mu hu : Nat → Int) (h : Nat) : Nat → Nat → Int
  | 0, x => if x = 0 then 0 else 100000000
  | j + 1, x => ffT (lvl mu hu h j) (mu (7 - j)).toNat (decide (0 < mu (7 - j) ∧ hu (7 - j) = ((h : Nat) : Int))) (x + 1) x
theorem lvl_s (mu hu : Nat → Int) (h j x : Nat) : lvl mu hu h (j + 1) x = if (0 < mu (7 - j) ∧ hu (7 - j) = ((h : Nat) : Int)) ∧ (mu (7 - j)).toNat ≤ x then min (lvl mu hu h (j + 1) (x - (mu (7 - j)).toNat) + 1) (lvl mu hu h j x) else lvl mu hu h j x := by
  rw [lvl, ffT, if_pos rfl]
  by_cases hc : (0 < mu (7 - j) ∧ hu (7 - j) = ((h : Nat) : Int)) ∧ (mu (7 - j)).toNat ≤ x
  · rw [if_pos hc, if_pos ⟨decide_eq_true hc.1, hc.2⟩, ffT_st x (by omega)]; rfl
  · rw [if_neg hc, if_neg (fun z => hc ⟨of_decide_eq_true z.1, z.2⟩)]
theorem lvl_b (mu hu : Nat → Int) (h : Nat) : ∀ j x, 0 ≤ lvl mu hu h j x ∧ lvl mu hu h j x ≤ 100000000 := by
  intro j
  induction j with
  | zero => intro x; simp only [lvl]; split <;> omega
  | succ j ih =>
    intro x
    induction x using Nat.strongRecOn with
    | _ x ihx =>
      rw [lvl_s]
      have h1 := ih x
      split
      · rename_i hc
        have h2 := ihx (x - (mu (7 - j)).toNat) (by omega)
        omega
      · exact h1
noncomputable def sp_mu (lw : List sp_C) (ρ : Nat → Int) (pane w : Nat) : Int := if (w : Int) < ρ 0 ∧ ¬ sp_barb lw ρ w = true then sp_stain lw ρ w pane else 0
def alF (mu hu : Nat → Int) (w : Nat) (g : Nat → Int) : Int := lvl mu hu 0 (8 - w) (g 0).toNat + lvl mu hu 1 (8 - w) (g 1).toNat + lvl mu hu 2 (8 - w) (g 2).toNat
theorem alF_b (mu hu : Nat → Int) (w : Nat) (g : Nat → Int) : 0 ≤ alF mu hu w g ∧ alF mu hu w g ≤ 300000000 := by
  have a := lvl_b mu hu 0 (8 - w) (g 0).toNat
  have b := lvl_b mu hu 1 (8 - w) (g 1).toNat
  have c := lvl_b mu hu 2 (8 - w) (g 2).toNat
  unfold alF
  omega
theorem mu_b (lw : List sp_C) (ρ : Nat → Int) (pane w : Nat) : 0 ≤ sp_mu lw ρ pane w ∧ sp_mu lw ρ pane w ≤ 20 := by
  have := sp_stain_b lw ρ w pane
  unfold sp_mu
  split <;> omega
theorem ct_R_fewestFrom {xs : Nat → Int} {L d : Nat} {sh : List (Nat × Nat)} {M0 : Nat → Nat → Int} (hd : 1 ≤ d) (hW : px_W0 <+: sh) (hF : px_Fx M0) (hG : px_RG sh M0)  {w h x : Nat} (hw : w ≤ 8) (hh : h < 3) (hx : x < 100) : ∃ v M, (px_qk sh [] M0 M ∧ (v = M0 251 (x + 100 * h + 300 * w))) ∧ px_Cl xs L d 264 [.ref 228, .int (iI (((w : Nat) : Int))), .int (iI (((h : Nat) : Int))), .int (iI (((x : Nat) : Int)))] (sh, M0) (some (.int (iI v))) (sh, M) := by
  obtain ⟨d, rfl⟩ : ∃ e, d = e + 1 := ⟨d - 1, by omega⟩
  have q0 : px_qk sh [] M0 M0 := ⟨hF, hG, eo_rf⟩
  refine vc_i (Nat.le_of_ble_eq_true rfl) ?_
  show px_R xs L d 264 (0, [.ref 228, .int (iI (((w : Nat) : Int))), .int (iI (((h : Nat) : Int))), .int (iI (((x : Nat) : Int)))], [], (sh, M0)) (fun r h' => ∃ v M', r = some (.int (iI v)) ∧ h' = (sh, M') ∧ px_qk sh [] M0 M' ∧ v = M0 251 (x + 100 * h + 300 * w))
  refine rr_aload_n pf_264_0 rfl ?_
  refine rr_getR pf_264_1 po_264 pg_9_122 rfl (ws_228 hW) (by decide) (wr_228_43 q0.1) ?_
  refine rr_sipush pf_264_4 (by decide) ?_
  refine rr_iload_n pf_264_7 rfl ?_
  refine rr_imul pf_264_8 ?_
  refine rr_bipush pf_264_9 (by decide) ?_
  refine rr_iload_n pf_264_11 rfl ?_
  refine rr_imul pf_264_12 ?_
  refine rr_iadd pf_264_13 ?_
  refine rr_iload_n pf_264_14 rfl ?_
  refine rr_iadd pf_264_15 ?_
  refine vr_iald (j := x + 100 * h + 300 * w) q0 pf_264_16 (ws_251 hW) (by omega) (by omega) (by decide) (fun x1 hx1 rx1 => ?_)
  refine rr_iret pf_264_17 pt_264 ⟨_, M0, rfl, rfl, q0, (by omega)⟩
theorem lp_R_layFewest_59 {xs : Nat → Int} {L d : Nat} {sh : List (Nat × Nat)} (hd : 7 ≤ d) (hW : px_W0 <+: sh) {M0 : Nat → Nat → Int}  (hρ : sp_ok (rr_ M0)) {lw : List sp_C} (hlw : px_lwR M0 lw) (hord : M0 228 20 = 0) {pane : Nat} (hpn : pane < 16) {w : Nat} (hw : w ≤ 8) {can mu : Int} (hmu : mu = (sp_mu lw (rr_ M0) pane) w) {h : Nat} (hh : h < 3) {Q : Option Value → px_H → Prop} (kx : ∀ (x : Nat) (v7 : Value) (v8 : Value) (M : Nat → Nat → Int), px_qk sh [228, 246, 248, 251] M0 M → (rq M0 M) → (∀ w2 h2 x2 : Nat, w2 ≤ 8 → h2 < 3 → x2 < 100 → (w < w2 ∨ (w2 = w ∧ h2 ≤ h)) → M 251 (x2 + 100 * h2 + 300 * w2) = lvl (sp_mu lw (rr_ M0) pane) (fun w => rr_ M0 (69 + w)) h2 (8 - w2) x2) → px_R xs L d 263 (185, [.ref 228, .int (iI (((pane : Nat) : Int))), .int (iI (((w : Nat) : Int))), .int (iI (can)), .int (iI (mu)), .int (iI (((h : Nat) : Int))), .int (iI (((x : Nat) : Int))), v7, v8], [], (sh, M)) Q)  : ∀ (mz : Nat) (x : Nat) (v7 : Value) (v8 : Value) (M : Nat → Nat → Int), 100 - x = mz → px_qk sh [228, 246, 248, 251] M0 M → (rq M0 M) → (x ≤ 100) → (∀ w2 h2 x2 : Nat, w2 ≤ 8 → h2 < 3 → x2 < 100 → (w < w2 ∨ (w2 = w ∧ (h2 < h ∨ (h2 = h ∧ x2 < x)))) → M 251 (x2 + 100 * h2 + 300 * w2) = lvl (sp_mu lw (rr_ M0) pane) (fun w => rr_ M0 (69 + w)) h2 (8 - w2) x2) → px_R xs L d 263 (59, [.ref 228, .int (iI (((pane : Nat) : Int))), .int (iI (((w : Nat) : Int))), .int (iI (can)), .int (iI (mu)), .int (iI (((h : Nat) : Int))), .int (iI (((x : Nat) : Int))), v7, v8], [], (sh, M)) Q := by
  intro mz
  induction mz using Nat.strongRecOn with
  | _ mz ih =>
    intro x v7 v8 M hm hq hrq hx hv
    have hmb := mu_b lw (rr_ M0) pane w
    have hl1 := lvl_b (sp_mu lw (rr_ M0) pane) (fun w => rr_ M0 (69 + w)) h (7 - w) x
    have hl2 := lvl_b (sp_mu lw (rr_ M0) pane) (fun w => rr_ M0 (69 + w)) h (8 - w) (x - ((sp_mu lw (rr_ M0) pane) w).toNat)
    refine rr_iload pf_263_59 rfl ?_
    refine rr_bipush pf_263_61 (by decide) ?_
    refine rr_icmp_ge 185 pf_263_63 (by decide) (by unfold rg; omega) (by unfold rg; omega) (fun c1 => ?_) (fun c1 => ?_)
    · exact kx x _ _ M hq (hrq) (by intro w2 h2 x2 a b c e; exact hv w2 h2 x2 a b c (by omega))
    · refine rr_iload_n pf_263_66 rfl ?_
      refine rr_bipush pf_263_67 (by decide) ?_
      refine rr_icmp_ne 87 pf_263_69 (by decide) (by unfold rg; omega) (by unfold rg; omega) (fun c2 => ?_) (fun c2 => ?_)
      · refine rr_aload_n pf_263_87 rfl ?_
        refine rr_iload_n pf_263_88 rfl ?_
        refine rr_iconst pf_263_89 ?_
        refine rr_iadd pf_263_90 ?_
        refine rr_iload pf_263_91 rfl ?_
        refine rr_iload pf_263_93 rfl ?_
        obtain ⟨r5, M3, ⟨kq4, pv_M3⟩, hcM3⟩ := ct_R_fewestFrom (xs := xs) (L := L) (d := d) (w := 1 + w) (h := h) (x := x) (by omega) hW hq.1 hq.2.1 (by omega) hh (by omega)
        rw [show ((1 + w : Nat) : Int) = ((w : Nat) : Int) + 1 by omega] at hcM3
        obtain rfl := qk_nil kq4
        refine rr_cV3 pf_263_95 po_263 pc_9_503 (ws_228 hW) po_264 (by decide) rfl hcM3 ?_
        rw [hv (1 + w) h x (by omega) (by omega) (by omega) (by omega), show 8 - (1 + w) = 7 - w by omega] at pv_M3
        refine rr_istore pf_263_98 (fun y => [.ref 228, .int (iI (((pane : Nat) : Int))), .int (iI (((w : Nat) : Int))), .int (iI (can)), .int (iI (mu)), .int (iI (((h : Nat) : Int))), .int (iI (((x : Nat) : Int))), .int (iI (y)), v8]) (Nat.le_of_ble_eq_true rfl) (fun _ => rfl) (fun y6 hy6 => ?_)
        refine rr_iload pf_263_100 rfl ?_
        refine rr_if_le 158 pf_263_102 (by decide) (by unfold rg; omega) (fun c7 => ?_) (fun c7 => ?_)
        · have hlv : y6 = lvl (sp_mu lw (rr_ M0) pane) (fun w => rr_ M0 (69 + w)) h (8 - w) x := by
            rw [show 8 - w = (7 - w) + 1 by omega, lvl_s, show 7 - (7 - w) = w by omega]; rw [if_neg (by omega)]; omega
          refine rr_aload_n pf_263_158 rfl ?_
          refine rr_getR pf_263_159 po_263 pg_9_122 rfl (ws_228 hW) (by decide) (wr_228_43 hq.1) ?_
          refine rr_sipush pf_263_162 (by decide) ?_
          refine rr_iload_n pf_263_165 rfl ?_
          refine rr_imul pf_263_166 ?_
          refine rr_bipush pf_263_167 (by decide) ?_
          refine rr_iload pf_263_169 rfl ?_
          refine rr_imul pf_263_171 ?_
          refine rr_iadd pf_263_172 ?_
          refine rr_iload pf_263_173 rfl ?_
          refine rr_iadd pf_263_175 ?_
          refine rr_iload pf_263_176 rfl ?_
          refine vr_iast (j := x + 100 * h + 300 * w) hW hq pf_263_178 (ws_251 hW) (by omega) (by omega) (by decide) (by unfold rg; omega) (by decide) (fun M8 eM8 q9 => ?_)
          have rq10 := rq_ne hrq eM8 (by decide)
          refine rr_iinc pf_263_179 rfl (fun y => [.ref 228, .int (iI (((pane : Nat) : Int))), .int (iI (((w : Nat) : Int))), .int (iI (can)), .int (iI (mu)), .int (iI (((h : Nat) : Int))), .int (iI (y)), .int (iI (y6)), v8]) (fun _ => rfl) (fun y11 hy11 => ?_)
          refine rr_goto 59 pf_263_182 (by decide) ?_
          obtain ⟨nz12, hnz12, rfl⟩ : ∃ zz : Nat, zz = 1 + x ∧ y11 = ((zz : Nat) : Int) := ⟨1 + x, rfl, by omega⟩
          exact ih _ (by omega) nz12 _ _ M8 rfl q9 (rq10) (by omega) (by
                          intro w2 h2 x2 a b c e; rw [eM8, ask_up]; by_cases hz : x2 + 100 * h2 + 300 * w2 = x + 100 * h + 300 * w
                          · rw [if_pos hz, show w2 = w by omega, show h2 = h by omega, show x2 = x by omega]; omega
                          · rw [if_neg hz]; exact hv w2 h2 x2 a b c (by omega))
        · refine rr_aload_n pf_263_105 rfl ?_
          refine rr_getR pf_263_106 po_263 pg_9_13 rfl (ws_228 hW) (by decide) (wr_228_3 hq.1) ?_
          refine rr_bipush pf_263_109 (by decide) ?_
          refine rr_iload_n pf_263_111 rfl ?_
          refine rr_iadd pf_263_112 ?_
          refine vr_iald (j := 69 + w) hq pf_263_113 (ws_230 hW) (by omega) (by omega) (by decide) (fun x13 hx13 rx13 => ?_)
          rw [hq.2.2 230 (by decide)] at hx13
          rw [rr_at (M := M0) (i := 69 + w) (by omega)] at hx13
          refine rr_iload pf_263_114 rfl ?_
          refine rr_icmp_ne 158 pf_263_116 (by decide) rx13 (by unfold rg; omega) (fun c14 => ?_) (fun c14 => ?_)
          · have hlv : y6 = lvl (sp_mu lw (rr_ M0) pane) (fun w => rr_ M0 (69 + w)) h (8 - w) x := by
              rw [show 8 - w = (7 - w) + 1 by omega, lvl_s, show 7 - (7 - w) = w by omega]; rw [if_neg (by omega)]; omega
            refine rr_aload_n pf_263_158 rfl ?_
            refine rr_getR pf_263_159 po_263 pg_9_122 rfl (ws_228 hW) (by decide) (wr_228_43 hq.1) ?_
            refine rr_sipush pf_263_162 (by decide) ?_
            refine rr_iload_n pf_263_165 rfl ?_
            refine rr_imul pf_263_166 ?_
            refine rr_bipush pf_263_167 (by decide) ?_
            refine rr_iload pf_263_169 rfl ?_
            refine rr_imul pf_263_171 ?_
            refine rr_iadd pf_263_172 ?_
            refine rr_iload pf_263_173 rfl ?_
            refine rr_iadd pf_263_175 ?_
            refine rr_iload pf_263_176 rfl ?_
            refine vr_iast (j := x + 100 * h + 300 * w) hW hq pf_263_178 (ws_251 hW) (by omega) (by omega) (by decide) (by unfold rg; omega) (by decide) (fun M15 eM15 q16 => ?_)
            have rq17 := rq_ne hrq eM15 (by decide)
            refine rr_iinc pf_263_179 rfl (fun y => [.ref 228, .int (iI (((pane : Nat) : Int))), .int (iI (((w : Nat) : Int))), .int (iI (can)), .int (iI (mu)), .int (iI (((h : Nat) : Int))), .int (iI (y)), .int (iI (y6)), v8]) (fun _ => rfl) (fun y18 hy18 => ?_)
            refine rr_goto 59 pf_263_182 (by decide) ?_
            obtain ⟨nz19, hnz19, rfl⟩ : ∃ zz : Nat, zz = 1 + x ∧ y18 = ((zz : Nat) : Int) := ⟨1 + x, rfl, by omega⟩
            exact ih _ (by omega) nz19 _ _ M15 rfl q16 (rq17) (by omega) (by
                              intro w2 h2 x2 a b c e; rw [eM15, ask_up]; by_cases hz : x2 + 100 * h2 + 300 * w2 = x + 100 * h + 300 * w
                              · rw [if_pos hz, show w2 = w by omega, show h2 = h by omega, show x2 = x by omega]; omega
                              · rw [if_neg hz]; exact hv w2 h2 x2 a b c (by omega))
          · refine rr_iload pf_263_119 rfl ?_
            refine rr_iload pf_263_121 rfl ?_
            refine rr_icmp_lt 158 pf_263_123 (by decide) (by unfold rg; omega) (by unfold rg; omega) (fun c20 => ?_) (fun c20 => ?_)
            · have hlv : y6 = lvl (sp_mu lw (rr_ M0) pane) (fun w => rr_ M0 (69 + w)) h (8 - w) x := by
                rw [show 8 - w = (7 - w) + 1 by omega, lvl_s, show 7 - (7 - w) = w by omega]; rw [if_neg (by omega)]; omega
              refine rr_aload_n pf_263_158 rfl ?_
              refine rr_getR pf_263_159 po_263 pg_9_122 rfl (ws_228 hW) (by decide) (wr_228_43 hq.1) ?_
              refine rr_sipush pf_263_162 (by decide) ?_
              refine rr_iload_n pf_263_165 rfl ?_
              refine rr_imul pf_263_166 ?_
              refine rr_bipush pf_263_167 (by decide) ?_
              refine rr_iload pf_263_169 rfl ?_
              refine rr_imul pf_263_171 ?_
              refine rr_iadd pf_263_172 ?_
              refine rr_iload pf_263_173 rfl ?_
              refine rr_iadd pf_263_175 ?_
              refine rr_iload pf_263_176 rfl ?_
              refine vr_iast (j := x + 100 * h + 300 * w) hW hq pf_263_178 (ws_251 hW) (by omega) (by omega) (by decide) (by unfold rg; omega) (by decide) (fun M21 eM21 q22 => ?_)
              have rq23 := rq_ne hrq eM21 (by decide)
              refine rr_iinc pf_263_179 rfl (fun y => [.ref 228, .int (iI (((pane : Nat) : Int))), .int (iI (((w : Nat) : Int))), .int (iI (can)), .int (iI (mu)), .int (iI (((h : Nat) : Int))), .int (iI (y)), .int (iI (y6)), v8]) (fun _ => rfl) (fun y24 hy24 => ?_)
              refine rr_goto 59 pf_263_182 (by decide) ?_
              obtain ⟨nz25, hnz25, rfl⟩ : ∃ zz : Nat, zz = 1 + x ∧ y24 = ((zz : Nat) : Int) := ⟨1 + x, rfl, by omega⟩
              exact ih _ (by omega) nz25 _ _ M21 rfl q22 (rq23) (by omega) (by
                                  intro w2 h2 x2 a b c e; rw [eM21, ask_up]; by_cases hz : x2 + 100 * h2 + 300 * w2 = x + 100 * h + 300 * w
                                  · rw [if_pos hz, show w2 = w by omega, show h2 = h by omega, show x2 = x by omega]; omega
                                  · rw [if_neg hz]; exact hv w2 h2 x2 a b c (by omega))
            · refine rr_aload_n pf_263_126 rfl ?_
              refine rr_iload_n pf_263_127 rfl ?_
              refine rr_iload pf_263_128 rfl ?_
              refine rr_iload pf_263_130 rfl ?_
              refine rr_iload pf_263_132 rfl ?_
              refine rr_isub pf_263_134 ?_
              obtain ⟨r28, M26, ⟨kq27, pv_M26⟩, hcM26⟩ := ct_R_fewestFrom (xs := xs) (L := L) (d := d) (w := w) (h := h) (x := x - ((sp_mu lw (rr_ M0) pane) w).toNat) (by omega) hW hq.1 hq.2.1 (by omega) hh (by omega)
              rw [show ((x - ((sp_mu lw (rr_ M0) pane) w).toNat : Nat) : Int) = ((x : Nat) : Int) - mu by omega] at hcM26
              obtain rfl := qk_nil kq27
              refine rr_cV3 pf_263_135 po_263 pc_9_503 (ws_228 hW) po_264 (by decide) rfl hcM26 ?_
              rw [hv w h (x - ((sp_mu lw (rr_ M0) pane) w).toNat) (by omega) (by omega) (by omega) (by omega)] at pv_M26
              refine rr_iconst pf_263_138 ?_
              refine rr_iadd pf_263_139 ?_
              refine rr_istore pf_263_140 (fun y => [.ref 228, .int (iI (((pane : Nat) : Int))), .int (iI (((w : Nat) : Int))), .int (iI (can)), .int (iI (mu)), .int (iI (((h : Nat) : Int))), .int (iI (((x : Nat) : Int))), .int (iI (y6)), .int (iI (y))]) (Nat.le_of_ble_eq_true rfl) (fun _ => rfl) (fun y29 hy29 => ?_)
              refine rr_iload pf_263_142 rfl ?_
              refine rr_iload pf_263_144 rfl ?_
              refine rr_icmp_ge 154 pf_263_146 (by decide) (by unfold rg; omega) (by unfold rg; omega) (fun c30 => ?_) (fun c30 => ?_)
              · refine rr_iload pf_263_154 rfl ?_
                refine rr_istore pf_263_156 (fun y => [.ref 228, .int (iI (((pane : Nat) : Int))), .int (iI (((w : Nat) : Int))), .int (iI (can)), .int (iI (mu)), .int (iI (((h : Nat) : Int))), .int (iI (((x : Nat) : Int))), .int (iI (y)), .int (iI (y29))]) (Nat.le_of_ble_eq_true rfl) (fun _ => rfl) (fun y31 hy31 => ?_)
                have hlv : y31 = lvl (sp_mu lw (rr_ M0) pane) (fun w => rr_ M0 (69 + w)) h (8 - w) x := by
                  rw [show 8 - w = (7 - w) + 1 by omega, lvl_s, show 7 - (7 - w) = w by omega]; rw [if_pos (by omega), show 7 - w + 1 = 8 - w by omega]; omega
                refine rr_aload_n pf_263_158 rfl ?_
                refine rr_getR pf_263_159 po_263 pg_9_122 rfl (ws_228 hW) (by decide) (wr_228_43 hq.1) ?_
                refine rr_sipush pf_263_162 (by decide) ?_
                refine rr_iload_n pf_263_165 rfl ?_
                refine rr_imul pf_263_166 ?_
                refine rr_bipush pf_263_167 (by decide) ?_
                refine rr_iload pf_263_169 rfl ?_
                refine rr_imul pf_263_171 ?_
                refine rr_iadd pf_263_172 ?_
                refine rr_iload pf_263_173 rfl ?_
                refine rr_iadd pf_263_175 ?_
                refine rr_iload pf_263_176 rfl ?_
                refine vr_iast (j := x + 100 * h + 300 * w) hW hq pf_263_178 (ws_251 hW) (by omega) (by omega) (by decide) (by unfold rg; omega) (by decide) (fun M32 eM32 q33 => ?_)
                have rq34 := rq_ne hrq eM32 (by decide)
                refine rr_iinc pf_263_179 rfl (fun y => [.ref 228, .int (iI (((pane : Nat) : Int))), .int (iI (((w : Nat) : Int))), .int (iI (can)), .int (iI (mu)), .int (iI (((h : Nat) : Int))), .int (iI (y)), .int (iI (y31)), .int (iI (y29))]) (fun _ => rfl) (fun y35 hy35 => ?_)
                refine rr_goto 59 pf_263_182 (by decide) ?_
                obtain ⟨nz36, hnz36, rfl⟩ : ∃ zz : Nat, zz = 1 + x ∧ y35 = ((zz : Nat) : Int) := ⟨1 + x, rfl, by omega⟩
                exact ih _ (by omega) nz36 _ _ M32 rfl q33 (rq34) (by omega) (by
                                      intro w2 h2 x2 a b c e; rw [eM32, ask_up]; by_cases hz : x2 + 100 * h2 + 300 * w2 = x + 100 * h + 300 * w
                                      · rw [if_pos hz, show w2 = w by omega, show h2 = h by omega, show x2 = x by omega]; omega
                                      · rw [if_neg hz]; exact hv w2 h2 x2 a b c (by omega))
              · refine rr_iload pf_263_149 rfl ?_
                refine rr_goto 156 pf_263_151 (by decide) ?_
                refine rr_istore pf_263_156 (fun y => [.ref 228, .int (iI (((pane : Nat) : Int))), .int (iI (((w : Nat) : Int))), .int (iI (can)), .int (iI (mu)), .int (iI (((h : Nat) : Int))), .int (iI (((x : Nat) : Int))), .int (iI (y)), .int (iI (y29))]) (Nat.le_of_ble_eq_true rfl) (fun _ => rfl) (fun y37 hy37 => ?_)
                have hlv : y37 = lvl (sp_mu lw (rr_ M0) pane) (fun w => rr_ M0 (69 + w)) h (8 - w) x := by
                  rw [show 8 - w = (7 - w) + 1 by omega, lvl_s, show 7 - (7 - w) = w by omega]; rw [if_pos (by omega), show 7 - w + 1 = 8 - w by omega]; omega
                refine rr_aload_n pf_263_158 rfl ?_
                refine rr_getR pf_263_159 po_263 pg_9_122 rfl (ws_228 hW) (by decide) (wr_228_43 hq.1) ?_
                refine rr_sipush pf_263_162 (by decide) ?_
                refine rr_iload_n pf_263_165 rfl ?_
                refine rr_imul pf_263_166 ?_
                refine rr_bipush pf_263_167 (by decide) ?_
                refine rr_iload pf_263_169 rfl ?_
                refine rr_imul pf_263_171 ?_
                refine rr_iadd pf_263_172 ?_
                refine rr_iload pf_263_173 rfl ?_
                refine rr_iadd pf_263_175 ?_
                refine rr_iload pf_263_176 rfl ?_
                refine vr_iast (j := x + 100 * h + 300 * w) hW hq pf_263_178 (ws_251 hW) (by omega) (by omega) (by decide) (by unfold rg; omega) (by decide) (fun M38 eM38 q39 => ?_)
                have rq40 := rq_ne hrq eM38 (by decide)
                refine rr_iinc pf_263_179 rfl (fun y => [.ref 228, .int (iI (((pane : Nat) : Int))), .int (iI (((w : Nat) : Int))), .int (iI (can)), .int (iI (mu)), .int (iI (((h : Nat) : Int))), .int (iI (y)), .int (iI (y37)), .int (iI (y29))]) (fun _ => rfl) (fun y41 hy41 => ?_)
                refine rr_goto 59 pf_263_182 (by decide) ?_
                obtain ⟨nz42, hnz42, rfl⟩ : ∃ zz : Nat, zz = 1 + x ∧ y41 = ((zz : Nat) : Int) := ⟨1 + x, rfl, by omega⟩
                exact ih _ (by omega) nz42 _ _ M38 rfl q39 (rq40) (by omega) (by
                                      intro w2 h2 x2 a b c e; rw [eM38, ask_up]; by_cases hz : x2 + 100 * h2 + 300 * w2 = x + 100 * h + 300 * w
                                      · rw [if_pos hz, show w2 = w by omega, show h2 = h by omega, show x2 = x by omega]; omega
                                      · rw [if_neg hz]; exact hv w2 h2 x2 a b c (by omega))
      · have hm8 : (sp_mu lw (rr_ M0) pane) w = 0 := by unfold sp_mu; rw [if_neg (fun z => by have := z.1; have := hρ.1; omega)]
        refine rr_iload pf_263_72 rfl ?_
        refine rr_if_ne 81 pf_263_74 (by decide) (by unfold rg; omega) (fun c43 => ?_) (fun c43 => ?_)
        · refine rr_ldc_w pf_263_81 po_263 pk_9_502 ?_
          refine rr_goto 98 pf_263_84 (by decide) ?_
          refine rr_istore pf_263_98 (fun y => [.ref 228, .int (iI (((pane : Nat) : Int))), .int (iI (((w : Nat) : Int))), .int (iI (can)), .int (iI (mu)), .int (iI (((h : Nat) : Int))), .int (iI (((x : Nat) : Int))), .int (iI (y)), v8]) (Nat.le_of_ble_eq_true rfl) (fun _ => rfl) (fun y44 hy44 => ?_)
          refine rr_iload pf_263_100 rfl ?_
          refine rr_if_le 158 pf_263_102 (by decide) (by unfold rg; omega) (fun c45 => ?_) (fun c45 => ?_)
          · have hlv : y44 = lvl (sp_mu lw (rr_ M0) pane) (fun w => rr_ M0 (69 + w)) h (8 - w) x := by
              rw [show w = 8 by omega]; show _ = (if x = 0 then 0 else 100000000); rw [if_neg (by omega)]; omega
            refine rr_aload_n pf_263_158 rfl ?_
            refine rr_getR pf_263_159 po_263 pg_9_122 rfl (ws_228 hW) (by decide) (wr_228_43 hq.1) ?_
            refine rr_sipush pf_263_162 (by decide) ?_
            refine rr_iload_n pf_263_165 rfl ?_
            refine rr_imul pf_263_166 ?_
            refine rr_bipush pf_263_167 (by decide) ?_
            refine rr_iload pf_263_169 rfl ?_
            refine rr_imul pf_263_171 ?_
            refine rr_iadd pf_263_172 ?_
            refine rr_iload pf_263_173 rfl ?_
            refine rr_iadd pf_263_175 ?_
            refine rr_iload pf_263_176 rfl ?_
            refine vr_iast (j := x + 100 * h + 300 * w) hW hq pf_263_178 (ws_251 hW) (by omega) (by omega) (by decide) (by unfold rg; omega) (by decide) (fun M46 eM46 q47 => ?_)
            have rq48 := rq_ne hrq eM46 (by decide)
            refine rr_iinc pf_263_179 rfl (fun y => [.ref 228, .int (iI (((pane : Nat) : Int))), .int (iI (((w : Nat) : Int))), .int (iI (can)), .int (iI (mu)), .int (iI (((h : Nat) : Int))), .int (iI (y)), .int (iI (y44)), v8]) (fun _ => rfl) (fun y49 hy49 => ?_)
            refine rr_goto 59 pf_263_182 (by decide) ?_
            obtain ⟨nz50, hnz50, rfl⟩ : ∃ zz : Nat, zz = 1 + x ∧ y49 = ((zz : Nat) : Int) := ⟨1 + x, rfl, by omega⟩
            exact ih _ (by omega) nz50 _ _ M46 rfl q47 (rq48) (by omega) (by
                              intro w2 h2 x2 a b c e; rw [eM46, ask_up]; by_cases hz : x2 + 100 * h2 + 300 * w2 = x + 100 * h + 300 * w
                              · rw [if_pos hz, show w2 = w by omega, show h2 = h by omega, show x2 = x by omega]; omega
                              · rw [if_neg hz]; exact hv w2 h2 x2 a b c (by omega))
          · exfalso; omega
        · refine rr_iconst pf_263_77 ?_
          refine rr_goto 98 pf_263_78 (by decide) ?_
          refine rr_istore pf_263_98 (fun y => [.ref 228, .int (iI (((pane : Nat) : Int))), .int (iI (((w : Nat) : Int))), .int (iI (can)), .int (iI (mu)), .int (iI (((h : Nat) : Int))), .int (iI (((x : Nat) : Int))), .int (iI (y)), v8]) (Nat.le_of_ble_eq_true rfl) (fun _ => rfl) (fun y51 hy51 => ?_)
          refine rr_iload pf_263_100 rfl ?_
          refine rr_if_le 158 pf_263_102 (by decide) (by unfold rg; omega) (fun c52 => ?_) (fun c52 => ?_)
          · have hlv : y51 = lvl (sp_mu lw (rr_ M0) pane) (fun w => rr_ M0 (69 + w)) h (8 - w) x := by
              rw [show w = 8 by omega]; show _ = (if x = 0 then 0 else 100000000); rw [if_pos (by omega)]; omega
            refine rr_aload_n pf_263_158 rfl ?_
            refine rr_getR pf_263_159 po_263 pg_9_122 rfl (ws_228 hW) (by decide) (wr_228_43 hq.1) ?_
            refine rr_sipush pf_263_162 (by decide) ?_
            refine rr_iload_n pf_263_165 rfl ?_
            refine rr_imul pf_263_166 ?_
            refine rr_bipush pf_263_167 (by decide) ?_
            refine rr_iload pf_263_169 rfl ?_
            refine rr_imul pf_263_171 ?_
            refine rr_iadd pf_263_172 ?_
            refine rr_iload pf_263_173 rfl ?_
            refine rr_iadd pf_263_175 ?_
            refine rr_iload pf_263_176 rfl ?_
            refine vr_iast (j := x + 100 * h + 300 * w) hW hq pf_263_178 (ws_251 hW) (by omega) (by omega) (by decide) (by unfold rg; omega) (by decide) (fun M53 eM53 q54 => ?_)
            have rq55 := rq_ne hrq eM53 (by decide)
            refine rr_iinc pf_263_179 rfl (fun y => [.ref 228, .int (iI (((pane : Nat) : Int))), .int (iI (((w : Nat) : Int))), .int (iI (can)), .int (iI (mu)), .int (iI (((h : Nat) : Int))), .int (iI (y)), .int (iI (y51)), v8]) (fun _ => rfl) (fun y56 hy56 => ?_)
            refine rr_goto 59 pf_263_182 (by decide) ?_
            obtain ⟨nz57, hnz57, rfl⟩ : ∃ zz : Nat, zz = 1 + x ∧ y56 = ((zz : Nat) : Int) := ⟨1 + x, rfl, by omega⟩
            exact ih _ (by omega) nz57 _ _ M53 rfl q54 (rq55) (by omega) (by
                              intro w2 h2 x2 a b c e; rw [eM53, ask_up]; by_cases hz : x2 + 100 * h2 + 300 * w2 = x + 100 * h + 300 * w
                              · rw [if_pos hz, show w2 = w by omega, show h2 = h by omega, show x2 = x by omega]; omega
                              · rw [if_neg hz]; exact hv w2 h2 x2 a b c (by omega))
          · exfalso; omega
theorem lp_R_layFewest_50 {xs : Nat → Int} {L d : Nat} {sh : List (Nat × Nat)} (hd : 7 ≤ d) (hW : px_W0 <+: sh) {M0 : Nat → Nat → Int}  (hρ : sp_ok (rr_ M0)) {lw : List sp_C} (hlw : px_lwR M0 lw) (hord : M0 228 20 = 0) {pane : Nat} (hpn : pane < 16) {w : Nat} (hw : w ≤ 8) {can mu : Int} (hmu : mu = (sp_mu lw (rr_ M0) pane) w) {Q : Option Value → px_H → Prop} (kx : ∀ (h : Nat) (v6 : Value) (v7 : Value) (v8 : Value) (M : Nat → Nat → Int), px_qk sh [228, 246, 248, 251] M0 M → (rq M0 M) → (∀ w2 h2 x2 : Nat, w2 ≤ 8 → h2 < 3 → x2 < 100 → w ≤ w2 → M 251 (x2 + 100 * h2 + 300 * w2) = lvl (sp_mu lw (rr_ M0) pane) (fun w => rr_ M0 (69 + w)) h2 (8 - w2) x2) → px_R xs L d 263 (191, [.ref 228, .int (iI (((pane : Nat) : Int))), .int (iI (((w : Nat) : Int))), .int (iI (can)), .int (iI (mu)), .int (iI (((h : Nat) : Int))), v6, v7, v8], [], (sh, M)) Q)  : ∀ (mz : Nat) (h : Nat) (v6 : Value) (v7 : Value) (v8 : Value) (M : Nat → Nat → Int), 3 - h = mz → px_qk sh [228, 246, 248, 251] M0 M → (rq M0 M) → (h ≤ 3) → (∀ w2 h2 x2 : Nat, w2 ≤ 8 → h2 < 3 → x2 < 100 → (w < w2 ∨ (w2 = w ∧ h2 < h)) → M 251 (x2 + 100 * h2 + 300 * w2) = lvl (sp_mu lw (rr_ M0) pane) (fun w => rr_ M0 (69 + w)) h2 (8 - w2) x2) → px_R xs L d 263 (50, [.ref 228, .int (iI (((pane : Nat) : Int))), .int (iI (((w : Nat) : Int))), .int (iI (can)), .int (iI (mu)), .int (iI (((h : Nat) : Int))), v6, v7, v8], [], (sh, M)) Q := by
  intro mz
  induction mz using Nat.strongRecOn with
  | _ mz ih =>
    intro h v6 v7 v8 M hm hq hrq hh hv
    refine rr_iload pf_263_50 rfl ?_
    refine rr_iconst pf_263_52 ?_
    refine rr_icmp_ge 191 pf_263_53 (by decide) (by unfold rg; omega) (by unfold rg; omega) (fun c1 => ?_) (fun c1 => ?_)
    · exact kx h _ _ _ M hq (hrq) (by intro w2 h2 x2 a b c e; exact hv w2 h2 x2 a b c (by omega))
    · refine rr_iconst pf_263_56 ?_
      refine rr_istore pf_263_57 (fun y => [.ref 228, .int (iI (((pane : Nat) : Int))), .int (iI (((w : Nat) : Int))), .int (iI (can)), .int (iI (mu)), .int (iI (((h : Nat) : Int))), .int (iI (y)), v7, v8]) (Nat.le_of_ble_eq_true rfl) (fun _ => rfl) (fun y2 hy2 => ?_)
      obtain ⟨nz3, hnz3, rfl⟩ : ∃ zz : Nat, zz = 0 ∧ y2 = ((zz : Nat) : Int) := ⟨0, rfl, by omega⟩
      refine lp_R_layFewest_59 (xs := xs) (L := L) (d := d) (by omega) hW hρ hlw hord hpn hw hmu (by omega) (fun x_4 v7 v8 M5 q6 xrq_M5 xx_M5 => ?_) _ nz3 _ _ M rfl hq (hrq) (by omega) (by intro w2 h2 x2 a b c e; exact hv w2 h2 x2 a b c (by omega))
      refine rr_iinc pf_263_185 rfl (fun y => [.ref 228, .int (iI (((pane : Nat) : Int))), .int (iI (((w : Nat) : Int))), .int (iI (can)), .int (iI (mu)), .int (iI (y)), .int (iI (((x_4 : Nat) : Int))), v7, v8]) (fun _ => rfl) (fun y9 hy9 => ?_)
      refine rr_goto 50 pf_263_188 (by decide) ?_
      obtain ⟨nz10, hnz10, rfl⟩ : ∃ zz : Nat, zz = 1 + h ∧ y9 = ((zz : Nat) : Int) := ⟨1 + h, rfl, by omega⟩
      exact ih _ (by omega) nz10 _ _ _ M5 rfl q6 (xrq_M5) (by omega) (by intro w2 h2 x2 a b c e; exact xx_M5 w2 h2 x2 a b c (by omega))
theorem lp_R_layFewest_3 {xs : Nat → Int} {L d : Nat} {sh : List (Nat × Nat)} (hd : 7 ≤ d) (hW : px_W0 <+: sh) {M0 : Nat → Nat → Int}  (hρ : sp_ok (rr_ M0)) {lw : List sp_C} (hlw : px_lwR M0 lw) (hord : M0 228 20 = 0) {pane : Nat} (hpn : pane < 16)  {Q : Option Value → px_H → Prop} (kx : ∀ (w : Int) (v3 : Value) (v4 : Value) (v5 : Value) (v6 : Value) (v7 : Value) (v8 : Value) (M : Nat → Nat → Int), px_qk sh [228, 246, 248, 251] M0 M → (rq M0 M) → (∀ w2 h2 x2 : Nat, w2 ≤ 8 → h2 < 3 → x2 < 100 → True → M 251 (x2 + 100 * h2 + 300 * w2) = lvl (sp_mu lw (rr_ M0) pane) (fun w => rr_ M0 (69 + w)) h2 (8 - w2) x2) → px_R xs L d 263 (197, [.ref 228, .int (iI (((pane : Nat) : Int))), .int (iI (w)), v3, v4, v5, v6, v7, v8], [], (sh, M)) Q)  : ∀ (mz : Nat) (w : Int) (v3 : Value) (v4 : Value) (v5 : Value) (v6 : Value) (v7 : Value) (v8 : Value) (M : Nat → Nat → Int), (w + 1).toNat = mz → px_qk sh [228, 246, 248, 251] M0 M → (rq M0 M) → (-1 ≤ w ∧ w ≤ 8) → (∀ w2 h2 x2 : Nat, w2 ≤ 8 → h2 < 3 → x2 < 100 → w < (w2 : Int) → M 251 (x2 + 100 * h2 + 300 * w2) = lvl (sp_mu lw (rr_ M0) pane) (fun w => rr_ M0 (69 + w)) h2 (8 - w2) x2) → px_R xs L d 263 (3, [.ref 228, .int (iI (((pane : Nat) : Int))), .int (iI (w)), v3, v4, v5, v6, v7, v8], [], (sh, M)) Q := by
  intro mz
  induction mz using Nat.strongRecOn with
  | _ mz ih =>
    intro w v3 v4 v5 v6 v7 v8 M hm hq hrq hw hv
    refine rr_iload_n pf_263_3 rfl ?_
    refine rr_if_lt 197 pf_263_4 (by decide) (by unfold rg; omega) (fun c1 => ?_) (fun c1 => ?_)
    · exact kx w _ _ _ _ _ _ M hq (hrq) (by intro w2 h2 x2 a b c _; exact hv w2 h2 x2 a b c (by omega))
    · obtain ⟨wn, rfl⟩ : ∃ z : Nat, w = ((z : Nat) : Int) := ⟨w.toNat, by omega⟩
      refine rr_iload_n pf_263_7 rfl ?_
      refine rr_aload_n pf_263_8 rfl ?_
      refine rr_getR pf_263_9 po_263 pg_9_13 rfl (ws_228 hW) (by decide) (wr_228_3 hq.1) ?_
      refine rr_iconst pf_263_12 ?_
      refine vr_iald (j := 0) hq pf_263_13 (ws_230 hW) (by omega) (by omega) (by decide) (fun x2 hx2 rx2 => ?_)
      rw [hq.2.2 230 (by decide)] at hx2
      rw [rr_at (M := M0) (i := 0) (by omega)] at hx2
      have h0 := hρ.1
      refine rr_icmp_ge 29 pf_263_14 (by decide) (by unfold rg; omega) rx2 (fun c3 => ?_) (fun c3 => ?_)
      · refine rr_iconst pf_263_29 ?_
        refine rr_istore_n pf_263_30 (fun y => [.ref 228, .int (iI (((pane : Nat) : Int))), .int (iI (((wn : Nat) : Int))), .int (iI (y)), v4, v5, v6, v7, v8]) (Nat.le_of_ble_eq_true rfl) (fun _ => rfl) (fun y4 hy4 => ?_)
        refine rr_iload_n pf_263_31 rfl ?_
        refine rr_if_eq 44 pf_263_32 (by decide) (by unfold rg; omega) (fun c5 => ?_) (fun c5 => ?_)
        · refine rr_iconst pf_263_44 ?_
          have hmuv : (sp_mu lw (rr_ M0) pane) wn = 0 := by unfold sp_mu; rw [if_neg (fun z => by have := z.1; omega)]
          refine rr_istore pf_263_45 (fun y => [.ref 228, .int (iI (((pane : Nat) : Int))), .int (iI (((wn : Nat) : Int))), .int (iI (y4)), .int (iI (y)), v5, v6, v7, v8]) (Nat.le_of_ble_eq_true rfl) (fun _ => rfl) (fun y6 hy6 => ?_)
          refine rr_iconst pf_263_47 ?_
          refine rr_istore pf_263_48 (fun y => [.ref 228, .int (iI (((pane : Nat) : Int))), .int (iI (((wn : Nat) : Int))), .int (iI (y4)), .int (iI (y6)), .int (iI (y)), v6, v7, v8]) (Nat.le_of_ble_eq_true rfl) (fun _ => rfl) (fun y7 hy7 => ?_)
          have hmu : y6 = (sp_mu lw (rr_ M0) pane) wn := by omega
          obtain ⟨nz8, hnz8, rfl⟩ : ∃ zz : Nat, zz = 0 ∧ y7 = ((zz : Nat) : Int) := ⟨0, rfl, by omega⟩
          refine lp_R_layFewest_50 (xs := xs) (L := L) (d := d) (by omega) hW hρ hlw hord hpn (by omega) hmu (fun h_9 v12 v13 v14 M10 q11 xrq_M10 xh_M10 => ?_) _ nz8 _ _ _ M rfl hq (hrq) (by omega) (by intro w2 h2 x2 a b c e; exact hv w2 h2 x2 a b c (by omega))
          refine rr_iinc pf_263_191 rfl (fun y => [.ref 228, .int (iI (((pane : Nat) : Int))), .int (iI (y)), .int (iI (y4)), .int (iI (y6)), .int (iI (((h_9 : Nat) : Int))), v12, v13, v14]) (fun _ => rfl) (fun y15 hy15 => ?_)
          refine rr_goto 3 pf_263_194 (by decide) ?_
          exact ih _ (by omega) y15 _ _ _ _ _ _ M10 rfl q11 (xrq_M10) (by omega) (by intro w2 h2 x2 a b c e; exact xh_M10 w2 h2 x2 a b c (by omega))
        · exfalso; omega
      · refine rr_aload_n pf_263_17 rfl ?_
        refine rr_iload_n pf_263_18 rfl ?_
        obtain ⟨M16, ⟨kq17, pf_M16⟩, hcM16⟩ := ct_R_isBarred (xs := xs) (L := L) (d := d) (w := wn) (lw := lw) (by omega) hW hq.1 hq.2.1 (by rw [rr_q hq (by decide)]; exact hρ) (lwR_q hq (by decide) hlw) ((hrq 20 (by decide)).trans hord) (by omega)
        rw [rr_q hq (by decide)] at hcM16
        have q17 := qk_trm hq kq17 (by decide)
        have rq19 := rq_tr hrq pf_M16
        refine rr_cV1 pf_263_19 po_263 pc_9_221 (ws_228 hW) po_186 (by decide) rfl hcM16 ?_
        
        refine rr_ifb_ne 29 pf_263_22 (by decide) (fun c20 => ?_) (fun c20 => ?_)
        · have hbar := c20
          refine rr_iconst pf_263_29 ?_
          refine rr_istore_n pf_263_30 (fun y => [.ref 228, .int (iI (((pane : Nat) : Int))), .int (iI (((wn : Nat) : Int))), .int (iI (y)), v4, v5, v6, v7, v8]) (Nat.le_of_ble_eq_true rfl) (fun _ => rfl) (fun y21 hy21 => ?_)
          refine rr_iload_n pf_263_31 rfl ?_
          refine rr_if_eq 44 pf_263_32 (by decide) (by unfold rg; omega) (fun c22 => ?_) (fun c22 => ?_)
          · refine rr_iconst pf_263_44 ?_
            have hmuv : (sp_mu lw (rr_ M0) pane) wn = 0 := by unfold sp_mu; rw [if_neg (fun z => z.2 hbar)]
            refine rr_istore pf_263_45 (fun y => [.ref 228, .int (iI (((pane : Nat) : Int))), .int (iI (((wn : Nat) : Int))), .int (iI (y21)), .int (iI (y)), v5, v6, v7, v8]) (Nat.le_of_ble_eq_true rfl) (fun _ => rfl) (fun y23 hy23 => ?_)
            refine rr_iconst pf_263_47 ?_
            refine rr_istore pf_263_48 (fun y => [.ref 228, .int (iI (((pane : Nat) : Int))), .int (iI (((wn : Nat) : Int))), .int (iI (y21)), .int (iI (y23)), .int (iI (y)), v6, v7, v8]) (Nat.le_of_ble_eq_true rfl) (fun _ => rfl) (fun y24 hy24 => ?_)
            have hmu : y23 = (sp_mu lw (rr_ M0) pane) wn := by omega
            obtain ⟨nz25, hnz25, rfl⟩ : ∃ zz : Nat, zz = 0 ∧ y24 = ((zz : Nat) : Int) := ⟨0, rfl, by omega⟩
            refine lp_R_layFewest_50 (xs := xs) (L := L) (d := d) (by omega) hW hρ hlw hord hpn (by omega) hmu (fun h_26 v29 v30 v31 M27 q28 xrq_M27 xh_M27 => ?_) _ nz25 _ _ _ M16 rfl q17 (rq19) (by omega) (by intro w2 h2 x2 a b c e; rw [kq17.2.2 251 (by decide)]; exact hv w2 h2 x2 a b c (by omega))
            refine rr_iinc pf_263_191 rfl (fun y => [.ref 228, .int (iI (((pane : Nat) : Int))), .int (iI (y)), .int (iI (y21)), .int (iI (y23)), .int (iI (((h_26 : Nat) : Int))), v29, v30, v31]) (fun _ => rfl) (fun y32 hy32 => ?_)
            refine rr_goto 3 pf_263_194 (by decide) ?_
            exact ih _ (by omega) y32 _ _ _ _ _ _ M27 rfl q28 (xrq_M27) (by omega) (by intro w2 h2 x2 a b c e; exact xh_M27 w2 h2 x2 a b c (by omega))
          · exfalso; omega
        · have hbar := c20
          refine rr_iconst pf_263_25 ?_
          refine rr_goto 30 pf_263_26 (by decide) ?_
          refine rr_istore_n pf_263_30 (fun y => [.ref 228, .int (iI (((pane : Nat) : Int))), .int (iI (((wn : Nat) : Int))), .int (iI (y)), v4, v5, v6, v7, v8]) (Nat.le_of_ble_eq_true rfl) (fun _ => rfl) (fun y33 hy33 => ?_)
          refine rr_iload_n pf_263_31 rfl ?_
          refine rr_if_eq 44 pf_263_32 (by decide) (by unfold rg; omega) (fun c34 => ?_) (fun c34 => ?_)
          · exfalso; omega
          · refine rr_aload_n pf_263_35 rfl ?_
            refine rr_iload_n pf_263_36 rfl ?_
            refine rr_iload_n pf_263_37 rfl ?_
            obtain ⟨r37, M35, ⟨kq36, pv_M35, pf_M35⟩, hcM35⟩ := ct_R_stainsOf (xs := xs) (L := L) (d := d) (w := wn) (p := pane) (lw := lw) (by omega) hW q17.1 q17.2.1 (by rw [rr_q q17 (by decide)]; exact hρ) (lwR_q q17 (by decide) hlw) ((rq19 20 (by decide)).trans hord) (by omega) hpn
            have q36 := qk_trm q17 kq36 (by decide)
            rw [rr_q q17 (by decide)] at pv_M35
            have rq38 := rq_tr rq19 pf_M35
            refine rr_cV2 pf_263_38 po_263 pc_9_224 (ws_228 hW) po_194 (by decide) rfl hcM35 ?_
            have hsb := sp_stain_b lw (rr_ M0) wn pane
            refine rr_goto 45 pf_263_41 (by decide) ?_
            have hmuv : (sp_mu lw (rr_ M0) pane) wn = sp_stain lw (rr_ M0) wn pane := by unfold sp_mu; rw [if_pos ⟨by omega, hbar⟩]
            refine rr_istore pf_263_45 (fun y => [.ref 228, .int (iI (((pane : Nat) : Int))), .int (iI (((wn : Nat) : Int))), .int (iI (y33)), .int (iI (y)), v5, v6, v7, v8]) (Nat.le_of_ble_eq_true rfl) (fun _ => rfl) (fun y39 hy39 => ?_)
            refine rr_iconst pf_263_47 ?_
            refine rr_istore pf_263_48 (fun y => [.ref 228, .int (iI (((pane : Nat) : Int))), .int (iI (((wn : Nat) : Int))), .int (iI (y33)), .int (iI (y39)), .int (iI (y)), v6, v7, v8]) (Nat.le_of_ble_eq_true rfl) (fun _ => rfl) (fun y40 hy40 => ?_)
            have hmu : y39 = (sp_mu lw (rr_ M0) pane) wn := by omega
            obtain ⟨nz41, hnz41, rfl⟩ : ∃ zz : Nat, zz = 0 ∧ y40 = ((zz : Nat) : Int) := ⟨0, rfl, by omega⟩
            refine lp_R_layFewest_50 (xs := xs) (L := L) (d := d) (by omega) hW hρ hlw hord hpn (by omega) hmu (fun h_42 v45 v46 v47 M43 q44 xrq_M43 xh_M43 => ?_) _ nz41 _ _ _ M35 rfl q36 (rq38) (by omega) (by intro w2 h2 x2 a b c e; rw [kq36.2.2 251 (by decide)]; rw [kq17.2.2 251 (by decide)]; exact hv w2 h2 x2 a b c (by omega))
            refine rr_iinc pf_263_191 rfl (fun y => [.ref 228, .int (iI (((pane : Nat) : Int))), .int (iI (y)), .int (iI (y33)), .int (iI (y39)), .int (iI (((h_42 : Nat) : Int))), v45, v46, v47]) (fun _ => rfl) (fun y48 hy48 => ?_)
            refine rr_goto 3 pf_263_194 (by decide) ?_
            exact ih _ (by omega) y48 _ _ _ _ _ _ M43 rfl q44 (xrq_M43) (by omega) (by intro w2 h2 x2 a b c e; exact xh_M43 w2 h2 x2 a b c (by omega))
theorem ct_R_layFewest {xs : Nat → Int} {L d : Nat} {sh : List (Nat × Nat)} {M0 : Nat → Nat → Int} (hd : 8 ≤ d) (hW : px_W0 <+: sh) (hF : px_Fx M0) (hG : px_RG sh M0)  (hρ : sp_ok (rr_ M0)) {lw : List sp_C} (hlw : px_lwR M0 lw) (hord : M0 228 20 = 0) {pane : Nat} (hpn : pane < 16) : ∃ M, (px_qk sh [228, 246, 248, 251] M0 M ∧ (∀ w2 h2 x2 : Nat, w2 ≤ 8 → h2 < 3 → x2 < 100 → M 251 (x2 + 100 * h2 + 300 * w2) = lvl (sp_mu lw (rr_ M0) pane) (fun w => rr_ M0 (69 + w)) h2 (8 - w2) x2) ∧ (rq M0 M)) ∧ px_Cl xs L d 263 [.ref 228, .int (iI (((pane : Nat) : Int)))] (sh, M0) (none) (sh, M) := by
  obtain ⟨d, rfl⟩ : ∃ e, d = e + 1 := ⟨d - 1, by omega⟩
  have q0 : px_qk sh [228, 246, 248, 251] M0 M0 := ⟨hF, hG, eo_rf⟩
  refine vc_n (Nat.le_of_ble_eq_true rfl) ?_
  show px_R xs L d 263 (0, [.ref 228, .int (iI (((pane : Nat) : Int))), px_jk, px_jk, px_jk, px_jk, px_jk, px_jk, px_jk], [], (sh, M0)) (fun r h' => r = none ∧ ∃ M', h' = (sh, M') ∧ px_qk sh [228, 246, 248, 251] M0 M' ∧ (∀ w2 h2 x2 : Nat, w2 ≤ 8 → h2 < 3 → x2 < 100 → M' 251 (x2 + 100 * h2 + 300 * w2) = lvl (sp_mu lw (rr_ M0) pane) (fun w => rr_ M0 (69 + w)) h2 (8 - w2) x2) ∧ rq M0 M')
  refine rr_bipush pf_263_0 (by decide) ?_
  refine rr_istore_n pf_263_2 (fun y => [.ref 228, .int (iI (((pane : Nat) : Int))), .int (iI (y)), px_jk, px_jk, px_jk, px_jk, px_jk, px_jk]) (Nat.le_of_ble_eq_true rfl) (fun _ => rfl) (fun y1 hy1 => ?_)
  refine lp_R_layFewest_3 (xs := xs) (L := L) (d := d) (by omega) hW hρ hlw hord hpn (fun w_2 v5 v6 v7 v8 v9 v10 M3 q4 xrq_M3 xv_M3 => ?_) _ y1 _ _ _ _ _ _ M0 rfl q0 ((rq_rf M0)) (by omega) (by intro w2 h2 x2 a b c e; exfalso; omega)
  refine rr_vret pf_263_197 pt_263 ⟨rfl, M3, rfl, q4, (by intro w2 h2 x2 a b c; exact xv_M3 w2 h2 x2 a b c trivial), (xrq_M3)⟩
theorem ct_R_allFrom {xs : Nat → Int} {L d : Nat} {sh : List (Nat × Nat)} {M0 : Nat → Nat → Int} (hd : 2 ≤ d) (hW : px_W0 <+: sh) (hF : px_Fx M0) (hG : px_RG sh M0)  {pane : Nat} {lw : List sp_C} (hft : ∀ w2 h2 x2 : Nat, w2 ≤ 8 → h2 < 3 → x2 < 100 → M0 251 (x2 + 100 * h2 + 300 * w2) = lvl (sp_mu lw (rr_ M0) pane) (fun w => rr_ M0 (69 + w)) h2 (8 - w2) x2) (hwt : ∀ j, j < 3 → 0 ≤ M0 252 j ∧ M0 252 j ≤ 99) {w : Nat} (hw : w ≤ 8) : ∃ v M, (px_qk sh [] M0 M ∧ (v = alF (sp_mu lw (rr_ M0) pane) (fun w => rr_ M0 (69 + w)) w (M0 252))) ∧ px_Cl xs L d 265 [.ref 228, .int (iI (((w : Nat) : Int)))] (sh, M0) (some (.int (iI v))) (sh, M) := by
  obtain ⟨d, rfl⟩ : ∃ e, d = e + 1 := ⟨d - 1, by omega⟩
  have q0 : px_qk sh [] M0 M0 := ⟨hF, hG, eo_rf⟩
  have hw0 := hwt 0 (by omega)
  have hw1 := hwt 1 (by omega)
  have hw2 := hwt 2 (by omega)
  refine vc_i (Nat.le_of_ble_eq_true rfl) ?_
  show px_R xs L d 265 (0, [.ref 228, .int (iI (((w : Nat) : Int)))], [], (sh, M0)) (fun r h' => ∃ v M', r = some (.int (iI v)) ∧ h' = (sh, M') ∧ px_qk sh [] M0 M' ∧ v = alF (sp_mu lw (rr_ M0) pane) (fun w => rr_ M0 (69 + w)) w (M0 252))
  refine rr_aload_n pf_265_0 rfl ?_
  refine rr_iload_n pf_265_1 rfl ?_
  refine rr_iconst pf_265_2 ?_
  refine rr_aload_n pf_265_3 rfl ?_
  refine rr_getR pf_265_4 po_265 pg_9_125 rfl (ws_228 hW) (by decide) (wr_228_44 q0.1) ?_
  refine rr_iconst pf_265_7 ?_
  refine vr_iald (j := 0) q0 pf_265_8 (ws_252 hW) (by omega) (by omega) (by decide) (fun x1 hx1 rx1 => ?_)
  obtain ⟨r4, M2, ⟨kq3, pv_M2⟩, hcM2⟩ := ct_R_fewestFrom (xs := xs) (L := L) (d := d) (w := w) (h := 0) (x := (M0 252 0).toNat) (by omega) hW q0.1 q0.2.1 hw (by omega) (by omega)
  rw [show ((0 : Nat) : Int) = 0 by omega] at hcM2
  rw [show (((M0 252 0).toNat : Nat) : Int) = x1 by omega] at hcM2
  obtain rfl := qk_nil kq3
  refine rr_cV3 pf_265_9 po_265 pc_9_503 (ws_228 hW) po_264 (by decide) rfl hcM2 ?_
  rw [hft w 0 (M0 252 0).toNat (by omega) (by omega) (by have := hwt 0 (by omega); omega)] at pv_M2
  have hb0 := lvl_b (sp_mu lw (rr_ M0) pane) (fun w => rr_ M0 (69 + w)) 0 (8 - w) (M0 252 0).toNat
  refine rr_aload_n pf_265_12 rfl ?_
  refine rr_iload_n pf_265_13 rfl ?_
  refine rr_iconst pf_265_14 ?_
  refine rr_aload_n pf_265_15 rfl ?_
  refine rr_getR pf_265_16 po_265 pg_9_125 rfl (ws_228 hW) (by decide) (wr_228_44 q0.1) ?_
  refine rr_iconst pf_265_19 ?_
  refine vr_iald (j := 1) q0 pf_265_20 (ws_252 hW) (by omega) (by omega) (by decide) (fun x5 hx5 rx5 => ?_)
  obtain ⟨r8, M6, ⟨kq7, pv_M6⟩, hcM6⟩ := ct_R_fewestFrom (xs := xs) (L := L) (d := d) (w := w) (h := 1) (x := (M0 252 1).toNat) (by omega) hW q0.1 q0.2.1 hw (by omega) (by omega)
  rw [show ((1 : Nat) : Int) = 1 by omega] at hcM6
  rw [show (((M0 252 1).toNat : Nat) : Int) = x5 by omega] at hcM6
  obtain rfl := qk_nil kq7
  refine rr_cV3 pf_265_21 po_265 pc_9_503 (ws_228 hW) po_264 (by decide) rfl hcM6 ?_
  rw [hft w 1 (M0 252 1).toNat (by omega) (by omega) (by have := hwt 1 (by omega); omega)] at pv_M6
  have hb1 := lvl_b (sp_mu lw (rr_ M0) pane) (fun w => rr_ M0 (69 + w)) 1 (8 - w) (M0 252 1).toNat
  refine rr_iadd pf_265_24 ?_
  refine rr_aload_n pf_265_25 rfl ?_
  refine rr_iload_n pf_265_26 rfl ?_
  refine rr_iconst pf_265_27 ?_
  refine rr_aload_n pf_265_28 rfl ?_
  refine rr_getR pf_265_29 po_265 pg_9_125 rfl (ws_228 hW) (by decide) (wr_228_44 q0.1) ?_
  refine rr_iconst pf_265_32 ?_
  refine vr_iald (j := 2) q0 pf_265_33 (ws_252 hW) (by omega) (by omega) (by decide) (fun x9 hx9 rx9 => ?_)
  obtain ⟨r12, M10, ⟨kq11, pv_M10⟩, hcM10⟩ := ct_R_fewestFrom (xs := xs) (L := L) (d := d) (w := w) (h := 2) (x := (M0 252 2).toNat) (by omega) hW q0.1 q0.2.1 hw (by omega) (by omega)
  rw [show ((2 : Nat) : Int) = 2 by omega] at hcM10
  rw [show (((M0 252 2).toNat : Nat) : Int) = x9 by omega] at hcM10
  obtain rfl := qk_nil kq11
  refine rr_cV3 pf_265_34 po_265 pc_9_503 (ws_228 hW) po_264 (by decide) rfl hcM10 ?_
  rw [hft w 2 (M0 252 2).toNat (by omega) (by omega) (by have := hwt 2 (by omega); omega)] at pv_M10
  have hb2 := lvl_b (sp_mu lw (rr_ M0) pane) (fun w => rr_ M0 (69 + w)) 2 (8 - w) (M0 252 2).toNat
  refine rr_iadd pf_265_37 ?_
  refine rr_iret pf_265_38 pt_265 ⟨_, M0, rfl, rfl, q0, (by unfold alF; omega)⟩

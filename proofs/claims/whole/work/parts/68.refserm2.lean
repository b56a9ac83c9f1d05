/-! sermons: which word comes -/
noncomputable def ccB (mu hu : Nat → Int) (w : Nat) (g : Nat → Int) (left : Int) : Bool := decide (0 < mu w ∧ mu w ≤ g (hu w).toNat ∧ alF mu hu w (fup g (hu w).toNat (g (hu w).toNat - mu w)) = left)
noncomputable def srS (mu hu : Nat → Int) (nw : Nat) (n i : Int) : Nat → Int → Nat → (Nat → Int) → Option Nat
  | 0, _, _, _ => none
  | f + 1, k, w, g => if i < k then some w else if nw ≤ w then none else if ccB mu hu w g (n - k - 1) = true then srS mu hu nw n i f (k + 1) w (fup g (hu w).toNat (g (hu w).toNat - mu w)) else srS mu hu nw n i f k (w + 1) g
theorem srS_e {mu hu : Nat → Int} {nw : Nat} {n i : Int} {f : Nat} {k : Int} {w : Nat} {g : Nat → Int} {res : Nat} (h : srS mu hu nw n i f k w g = some res) (hk : i < k) : w = res := by
  cases f with
  | zero => cases h
  | succ f => rw [srS, if_pos hk] at h; exact Option.some.inj h
theorem srS_s {mu hu : Nat → Int} {nw : Nat} {n i : Int} {f : Nat} {k : Int} {w : Nat} {g : Nat → Int} {res : Nat} (h : srS mu hu nw n i f k w g = some res) (hk : k ≤ i) : ∃ f', f = f' + 1 ∧ w < nw ∧ (if ccB mu hu w g (n - k - 1) = true then srS mu hu nw n i f' (k + 1) w (fup g (hu w).toNat (g (hu w).toNat - mu w)) else srS mu hu nw n i f' k (w + 1) g) = some res := by
  cases f with
  | zero => cases h
  | succ f =>
    rw [srS, if_neg (by omega)] at h
    split at h
    · cases h
    · exact ⟨f, rfl, by omega, h⟩
theorem up_fup {M M2 : Nat → Nat → Int} {a j : Nat} {x : Int} (e : M2 = px_up M a j x) : M2 a = fup (M a) j x := by rw [e, up_self]; rfl
theorem fup_fup {t : Nat → Int} {k : Nat} {x y : Int} (h : y = t k) : fup (fup t k x) k y = t := by
  funext j
  unfold fup
  split
  · rename_i hj; rw [hj, h]
  · rfl
theorem ct_R_canCome {xs : Nat → Int} {L d : Nat} {sh : List (Nat × Nat)} {M0 : Nat → Nat → Int} (hd : 8 ≤ d) (hW : px_W0 <+: sh) (hF : px_Fx M0) (hG : px_RG sh M0) {pane : Nat} {lw : List sp_C} (hft : ∀ w2 h2 x2 : Nat, w2 ≤ 8 → h2 < 3 → x2 < 100 → M0 251 (x2 + 100 * h2 + 300 * w2) = lvl (sp_mu lw (rr_ M0) pane) (fun w => rr_ M0 (69 + w)) h2 (8 - w2) x2) (hρ : sp_ok (rr_ M0)) (hlw : px_lwR M0 lw) (hord : M0 228 20 = 0) (hwt : ∀ j, j < 3 → 0 ≤ M0 252 j ∧ M0 252 j ≤ 99) (hpn : pane < 16) {w : Nat} (hwn : (w : Int) < rr_ M0 0) {left : Int} (hl0 : rg left) : ∃ M, (px_qk sh [228, 246, 248, 252] M0 M ∧ (M 252 = M0 252) ∧ (rq M0 M)) ∧ px_Cl xs L d 266 [.ref 228, .int (iI (((w : Nat) : Int))), .int (iI (((pane : Nat) : Int))), .int (iI (left))] (sh, M0) (some (.int (iI (bI (ccB (sp_mu lw (rr_ M0) pane) (fun w => rr_ M0 (69 + w)) w (M0 252) left = true))))) (sh, M) := by
  obtain ⟨d, rfl⟩ : ∃ e, d = e + 1 := ⟨d - 1, by omega⟩
  have q0 : px_qk sh [228, 246, 248, 252] M0 M0 := ⟨hF, hG, eo_rf⟩
  have h0 := hρ.1
  have hhb := sp_wh_b hρ (w := w) (by omega)
  have hw0 := hwt 0 (by omega)
  have hw1 := hwt 1 (by omega)
  have hw2 := hwt 2 (by omega)
  have hwh := hwt (rr_ M0 (69 + w)).toNat (by omega)
  have hmb := mu_b lw (rr_ M0) pane w
  refine vc_n (Nat.le_of_ble_eq_true rfl) ?_
  show px_R xs L d 266 (0, [.ref 228, .int (iI (((w : Nat) : Int))), .int (iI (((pane : Nat) : Int))), .int (iI (left)), px_jk, px_jk, px_jk], [], (sh, M0)) (fun r h' => r = some (.int (iI (bI (ccB (sp_mu lw (rr_ M0) pane) (fun w => rr_ M0 (69 + w)) w (M0 252) left = true)))) ∧ ∃ M', h' = (sh, M') ∧ px_qk sh [228, 246, 248, 252] M0 M' ∧ M' 252 = M0 252 ∧ rq M0 M')
  refine rr_aload_n pf_266_0 rfl ?_
  refine rr_getR pf_266_1 po_266 pg_9_13 rfl (ws_228 hW) (by decide) (wr_228_3 q0.1) ?_
  refine rr_bipush pf_266_4 (by decide) ?_
  refine rr_iload_n pf_266_6 rfl ?_
  refine rr_iadd pf_266_7 ?_
  refine vr_iald (j := 69 + w) q0 pf_266_8 (ws_230 hW) (by omega) (by omega) (by decide) (fun x1 hx1 rx1 => ?_)
  rw [rr_at (M := M0) (i := 69 + w) (by omega)] at hx1
  refine rr_istore pf_266_9 (fun y => [.ref 228, .int (iI (((w : Nat) : Int))), .int (iI (((pane : Nat) : Int))), .int (iI (left)), .int (iI (y)), px_jk, px_jk]) (Nat.le_of_ble_eq_true rfl) (fun _ => rfl) (fun y2 hy2 => ?_)
  have ry2 : rg y2 := hy2 ▸ rx1
  refine rr_aload_n pf_266_11 rfl ?_
  refine rr_iload_n pf_266_12 rfl ?_
  obtain ⟨M3, ⟨kq4, pf_M3⟩, hcM3⟩ := ct_R_isBarred (xs := xs) (L := L) (d := d) (w := w) (lw := lw) (by omega) hW q0.1 q0.2.1 hρ hlw hord (by omega)
  have q4 := qk_trm q0 kq4 (by decide)
  have rq6 := rq_tr (rq_rf M0) pf_M3
  have e7 : M3 252 = M0 252 := (kq4.2.2 252 (by decide)).trans (rfl : M0 252 = M0 252)
  refine rr_cV1 pf_266_13 po_266 pc_9_221 (ws_228 hW) po_186 (by decide) rfl hcM3 ?_
  refine rr_ifb_eq 23 pf_266_16 (by decide) (fun c8 => ?_) (fun c8 => ?_)
  · have hbar := c8
    refine rr_aload_n pf_266_23 rfl ?_
    refine rr_iload_n pf_266_24 rfl ?_
    refine rr_iload_n pf_266_25 rfl ?_
    obtain ⟨r11, M9, ⟨kq10, pv_M9, pf_M9⟩, hcM9⟩ := ct_R_stainsOf (xs := xs) (L := L) (d := d) (w := w) (p := pane) (lw := lw) (by omega) hW q4.1 q4.2.1 (by rw [rr_q q4 (by decide)]; exact hρ) (lwR_q q4 (by decide) hlw) ((rq6 20 (by decide)).trans hord) (by omega) hpn
    have q10 := qk_trm q4 kq10 (by decide)
    rw [rr_q q4 (by decide)] at pv_M9
    have rq12 := rq_tr rq6 pf_M9
    have e13 : M9 252 = M0 252 := (kq10.2.2 252 (by decide)).trans e7
    refine rr_cV2 pf_266_26 po_266 pc_9_224 (ws_228 hW) po_194 (by decide) rfl hcM9 ?_
    refine rr_istore pf_266_29 (fun y => [.ref 228, .int (iI (((w : Nat) : Int))), .int (iI (((pane : Nat) : Int))), .int (iI (left)), .int (iI (y2)), .int (iI (y)), px_jk]) (Nat.le_of_ble_eq_true rfl) (fun _ => rfl) (fun y14 hy14 => ?_)
    have hmuv : (sp_mu lw (rr_ M0) pane) w = y14 := by unfold sp_mu; rw [if_pos ⟨hwn, hbar⟩]; omega
    refine rr_iload pf_266_31 rfl ?_
    refine rr_if_eq 48 pf_266_33 (by decide) (by unfold rg; omega) (fun c15 => ?_) (fun c15 => ?_)
    · refine rr_iconst pf_266_48 ?_
      refine rr_zret pf_266_49 pt_266 (by first | exact Or.inl rfl | exact Or.inr rfl | omega) ⟨by rw [bI_f (by intro z; have z2 := of_decide_eq_true z; dsimp only at z2; omega)], M9, rfl, q10, (e13), (rq12)⟩
    · refine rr_aload_n pf_266_36 rfl ?_
      refine rr_getR pf_266_37 po_266 pg_9_125 rfl (ws_228 hW) (by decide) (wr_228_44 q10.1) ?_
      refine rr_iload pf_266_40 rfl ?_
      refine vr_iald (j := (rr_ M0 (69 + w)).toNat) q10 pf_266_42 (ws_252 hW) (by omega) (by omega) (by decide) (fun x16 hx16 rx16 => ?_)
      rw [e13] at hx16
      refine rr_iload pf_266_43 rfl ?_
      refine rr_icmp_ge 50 pf_266_45 (by decide) rx16 (by unfold rg; omega) (fun c17 => ?_) (fun c17 => ?_)
      · refine rr_aload_n pf_266_50 rfl ?_
        refine rr_getR pf_266_51 po_266 pg_9_125 rfl (ws_228 hW) (by decide) (wr_228_44 q10.1) ?_
        refine rr_iload pf_266_54 rfl ?_
        refine rr_dup2 pf_266_56 rfl rfl ?_
        refine vr_iald (j := (rr_ M0 (69 + w)).toNat) q10 pf_266_57 (ws_252 hW) (by omega) (by omega) (by decide) (fun x18 hx18 rx18 => ?_)
        rw [e13] at hx18
        refine rr_iload pf_266_58 rfl ?_
        refine rr_isub pf_266_60 ?_
        refine vr_iast (j := (rr_ M0 (69 + w)).toNat) hW q10 pf_266_61 (ws_252 hW) (by omega) (by omega) (by decide) (by unfold rg; omega) (by decide) (fun M19 eM19 q20 => ?_)
        have rq21 := rq_ne rq12 eM19 (by decide)
        refine rr_aload_n pf_266_62 rfl ?_
        have hg52 : M19 252 = fup (M0 252) (rr_ M0 (69 + w)).toNat (M0 252 (rr_ M0 (69 + w)).toNat - (sp_mu lw (rr_ M0) pane) w) := by rw [up_fup eM19, e13]; congr 1; omega
        refine rr_iload_n pf_266_63 rfl ?_
        obtain ⟨r24, M22, ⟨kq23, pv_M22⟩, hcM22⟩ := ct_R_allFrom (xs := xs) (L := L) (d := d) (w := w) (lw := lw) (pane := pane) (by omega) hW q20.1 q20.2.1 (fun w2 h2 x2 a b c => by rw [q20.2.2 251 (by decide), rr_q q20 (by decide)]; exact hft w2 h2 x2 a b c) (fun j hj => by rw [hg52]; unfold fup; split; omega; exact hwt j hj) (by omega)
        obtain rfl := qk_nil kq23
        rw [rr_q q20 (by decide)] at pv_M22
        refine rr_cV1 pf_266_64 po_266 pc_9_507 (ws_228 hW) po_265 (by decide) rfl hcM22 ?_
        rw [hg52] at pv_M22
        have hab := alF_b (sp_mu lw (rr_ M0) pane) (fun w => rr_ M0 (69 + w)) w (fup (M0 252) (rr_ M0 (69 + w)).toNat (M0 252 (rr_ M0 (69 + w)).toNat - (sp_mu lw (rr_ M0) pane) w))
        refine rr_iload_n pf_266_67 rfl ?_
        refine rr_icmp_ne 75 pf_266_68 (by decide) (by unfold rg; omega) hl0 (fun c25 => ?_) (fun c25 => ?_)
        · refine rr_iconst pf_266_75 ?_
          refine rr_istore pf_266_76 (fun y => [.ref 228, .int (iI (((w : Nat) : Int))), .int (iI (((pane : Nat) : Int))), .int (iI (left)), .int (iI (y2)), .int (iI (y14)), .int (iI (y))]) (Nat.le_of_ble_eq_true rfl) (fun _ => rfl) (fun y26 hy26 => ?_)
          refine rr_aload_n pf_266_78 rfl ?_
          refine rr_getR pf_266_79 po_266 pg_9_125 rfl (ws_228 hW) (by decide) (wr_228_44 q20.1) ?_
          refine rr_iload pf_266_82 rfl ?_
          refine rr_dup2 pf_266_84 rfl rfl ?_
          refine vr_iald (j := (rr_ M0 (69 + w)).toNat) q20 pf_266_85 (ws_252 hW) (by omega) (by omega) (by decide) (fun x27 hx27 rx27 => ?_)
          rw [eM19, up_s] at hx27
          refine rr_iload pf_266_86 rfl ?_
          refine rr_iadd pf_266_88 ?_
          refine vr_iast (j := (rr_ M0 (69 + w)).toNat) hW q20 pf_266_89 (ws_252 hW) (by omega) (by omega) (by decide) (by unfold rg; omega) (by decide) (fun M28 eM28 q29 => ?_)
          have rq30 := rq_ne rq21 eM28 (by decide)
          refine rr_iload pf_266_90 rfl ?_
          refine rr_zret pf_266_92 pt_266 (by first | exact Or.inl rfl | exact Or.inr rfl | omega) ⟨by congr 3; first | (rw [bI_t (by refine decide_eq_true ?_; dsimp only; exact ⟨by omega, by omega, by omega⟩)]; omega) | (rw [bI_f (by intro z; have z2 := of_decide_eq_true z; dsimp only at z2; omega)]; omega), M28, rfl, q29, (by rw [up_fup eM28, up_fup eM19, e13]; exact fup_fup (by omega)), (rq30)⟩
        · refine rr_iconst pf_266_71 ?_
          refine rr_goto 76 pf_266_72 (by decide) ?_
          refine rr_istore pf_266_76 (fun y => [.ref 228, .int (iI (((w : Nat) : Int))), .int (iI (((pane : Nat) : Int))), .int (iI (left)), .int (iI (y2)), .int (iI (y14)), .int (iI (y))]) (Nat.le_of_ble_eq_true rfl) (fun _ => rfl) (fun y31 hy31 => ?_)
          refine rr_aload_n pf_266_78 rfl ?_
          refine rr_getR pf_266_79 po_266 pg_9_125 rfl (ws_228 hW) (by decide) (wr_228_44 q20.1) ?_
          refine rr_iload pf_266_82 rfl ?_
          refine rr_dup2 pf_266_84 rfl rfl ?_
          refine vr_iald (j := (rr_ M0 (69 + w)).toNat) q20 pf_266_85 (ws_252 hW) (by omega) (by omega) (by decide) (fun x32 hx32 rx32 => ?_)
          rw [eM19, up_s] at hx32
          refine rr_iload pf_266_86 rfl ?_
          refine rr_iadd pf_266_88 ?_
          refine vr_iast (j := (rr_ M0 (69 + w)).toNat) hW q20 pf_266_89 (ws_252 hW) (by omega) (by omega) (by decide) (by unfold rg; omega) (by decide) (fun M33 eM33 q34 => ?_)
          have rq35 := rq_ne rq21 eM33 (by decide)
          refine rr_iload pf_266_90 rfl ?_
          refine rr_zret pf_266_92 pt_266 (by first | exact Or.inl rfl | exact Or.inr rfl | omega) ⟨by congr 3; first | (rw [bI_t (by refine decide_eq_true ?_; dsimp only; exact ⟨by omega, by omega, by omega⟩)]; omega) | (rw [bI_f (by intro z; have z2 := of_decide_eq_true z; dsimp only at z2; omega)]; omega), M33, rfl, q34, (by rw [up_fup eM33, up_fup eM19, e13]; exact fup_fup (by omega)), (rq35)⟩
      · refine rr_iconst pf_266_48 ?_
        refine rr_zret pf_266_49 pt_266 (by first | exact Or.inl rfl | exact Or.inr rfl | omega) ⟨by rw [bI_f (by intro z; have z2 := of_decide_eq_true z; dsimp only at z2; omega)], M9, rfl, q10, (e13), (rq12)⟩
  · have hbar := c8
    refine rr_iconst pf_266_19 ?_
    refine rr_goto 29 pf_266_20 (by decide) ?_
    refine rr_istore pf_266_29 (fun y => [.ref 228, .int (iI (((w : Nat) : Int))), .int (iI (((pane : Nat) : Int))), .int (iI (left)), .int (iI (y2)), .int (iI (y)), px_jk]) (Nat.le_of_ble_eq_true rfl) (fun _ => rfl) (fun y36 hy36 => ?_)
    have hmuv : (sp_mu lw (rr_ M0) pane) w = y36 := by unfold sp_mu; rw [if_neg (fun z => z.2 hbar)]; omega
    refine rr_iload pf_266_31 rfl ?_
    refine rr_if_eq 48 pf_266_33 (by decide) (by unfold rg; omega) (fun c37 => ?_) (fun c37 => ?_)
    · refine rr_iconst pf_266_48 ?_
      refine rr_zret pf_266_49 pt_266 (by first | exact Or.inl rfl | exact Or.inr rfl | omega) ⟨by rw [bI_f (by intro z; have z2 := of_decide_eq_true z; dsimp only at z2; omega)], M3, rfl, q4, (e7), (rq6)⟩
    · exfalso; omega
theorem mu_pos {lw : List sp_C} {ρ : Nat → Int} {pane w : Nat} (h : 0 < sp_mu lw ρ pane w) : (w : Int) < ρ 0 ∧ ¬ sp_barb lw ρ w = true := by
  unfold sp_mu at h
  split at h
  · assumption
  · omega
def wgF (g : Nat → Int) (ρ : Nat → Int) (p : Nat) (r b c : Int) : Nat → Int := fup (fup (fup g 0 (r - ρ (9 + 3 * p))) 1 (b - ρ (9 + 3 * p + 1))) 2 (c - ρ (9 + 3 * p + 2))
theorem lp_R_sermon2_190 {xs : Nat → Int} {L d : Nat} {sh : List (Nat × Nat)} (hd : 11 ≤ d) (hW : px_W0 <+: sh) {M0 : Nat → Nat → Int}  (hρ : sp_ok (rr_ M0)) {lw : List sp_C} (hlw : px_lwR M0 lw) (hord : M0 228 20 = 0) {pane : Nat} (hpn : pane < 16) {nw : Nat} (hnw : rr_ M0 0 = ((nw : Nat) : Int)) {i : Int} (hi0 : rg i) {er eb ec nn : Int} (hnn : 0 ≤ nn ∧ nn ≤ 300000000) {k : Int} (hki : 0 ≤ k ∧ k ≤ i) (hi3 : i ≤ 300000000) {g : Nat → Int} (hgb : ∀ j, j < 3 → 0 ≤ g j ∧ g j ≤ 99) {F0 res : Nat} {Q : Option Value → px_H → Prop} (kx : ∀ (f : Nat) (w : Nat) (M : Nat → Nat → Int), px_qk sh [228, 246, 248, 251, 252] M0 M → (rz [] M0 M) → (∀ w2 h2 x2 : Nat, w2 ≤ 8 → h2 < 3 → x2 < 100 → M 251 (x2 + 100 * h2 + 300 * w2) = lvl (sp_mu lw (rr_ M0) pane) (fun w => rr_ M0 (69 + w)) h2 (8 - w2) x2) → (M 252 = g) → (f < F0) → ((w : Int) < rr_ M0 0) → (ccB (sp_mu lw (rr_ M0) pane) (fun w => rr_ M0 (69 + w)) w g (nn - k - 1) = true) → (srS (sp_mu lw (rr_ M0) pane) (fun w => rr_ M0 (69 + w)) nw nn i f (k + 1) w (fup g (rr_ M0 (69 + w)).toNat (g (rr_ M0 (69 + w)).toNat - (sp_mu lw (rr_ M0) pane) w)) = some res) → px_R xs L d 262 (213, [.ref 228, .int (iI (((pane : Nat) : Int))), .int (iI (er)), .int (iI (eb)), .int (iI (ec)), .int (iI (i)), .int (iI (nn)), .int (iI (((w : Nat) : Int))), .int (iI (k))], [], (sh, M)) Q)  : ∀ (mz : Nat) (f : Nat) (w : Nat) (M : Nat → Nat → Int), f = mz → px_qk sh [228, 246, 248, 251, 252] M0 M → (rz [] M0 M) → (∀ w2 h2 x2 : Nat, w2 ≤ 8 → h2 < 3 → x2 < 100 → M 251 (x2 + 100 * h2 + 300 * w2) = lvl (sp_mu lw (rr_ M0) pane) (fun w => rr_ M0 (69 + w)) h2 (8 - w2) x2) → (M 252 = g) → (f ≤ F0) → (srS (sp_mu lw (rr_ M0) pane) (fun w => rr_ M0 (69 + w)) nw nn i f k w g = some res) → px_R xs L d 262 (190, [.ref 228, .int (iI (((pane : Nat) : Int))), .int (iI (er)), .int (iI (eb)), .int (iI (ec)), .int (iI (i)), .int (iI (nn)), .int (iI (((w : Nat) : Int))), .int (iI (k))], [], (sh, M)) Q := by
  intro mz
  induction mz using Nat.strongRecOn with
  | _ mz ih =>
    intro f w M hm hq hrq hfM hgM hfF hfs
    refine rr_aload_n pf_262_190 rfl ?_
    obtain ⟨f2, rfl, hwv, hfs2⟩ := srS_s hfs (by omega)
    have h0 := hρ.1
    refine rr_iload pf_262_191 rfl ?_
    refine rr_iload_n pf_262_193 rfl ?_
    refine rr_iload pf_262_194 rfl ?_
    refine rr_iload pf_262_196 rfl ?_
    refine rr_isub pf_262_198 ?_
    refine rr_iconst pf_262_199 ?_
    refine rr_isub pf_262_200 ?_
    obtain ⟨M1, ⟨kq2, p52_M1, pf_M1⟩, hcM1⟩ := ct_R_canCome (xs := xs) (L := L) (d := d) (w := w) (pane := pane) (left := (nn - k) - 1) (lw := lw) (by omega) hW hq.1 hq.2.1 (fun w2 h2 x2 a b c => by rw [rr_q hq (by decide)]; exact hfM w2 h2 x2 a b c) (by rw [rr_q hq (by decide)]; exact hρ) (lwR_q hq (by decide) hlw) ((hrq 20 (by decide) (by decide)).trans hord) (by rw [hgM]; exact hgb) hpn (by rw [rr_q hq (by decide)]; omega) (by unfold rg; omega)
    rw [rr_q hq (by decide)] at hcM1
    have q2 := qk_trm hq kq2 (by decide)
    have rq4 := rz_rq hrq pf_M1
    refine rr_cV3 pf_262_201 po_262 pc_9_513 (ws_228 hW) po_266 (by decide) rfl hcM1 ?_
    refine rr_ifb_ne 213 pf_262_204 (by decide) (fun c5 => ?_) (fun c5 => ?_)
    · have hcc := c5
      rw [hgM] at hcc
      exact kx f2 w M1 q2 (rq4) (by intro w2 h2 x2 a b c; rw [kq2.2.2 251 (by decide)]; exact hfM w2 h2 x2 a b c) (by rw [p52_M1]; exact hgM) (by omega) (by omega) (hcc) (by rw [if_pos hcc] at hfs2; exact hfs2)
    · have hcc := c5
      rw [hgM] at hcc
      refine rr_iinc pf_262_207 rfl (fun y => [.ref 228, .int (iI (((pane : Nat) : Int))), .int (iI (er)), .int (iI (eb)), .int (iI (ec)), .int (iI (i)), .int (iI (nn)), .int (iI (y)), .int (iI (k))]) (fun _ => rfl) (fun y6 hy6 => ?_)
      refine rr_goto 190 pf_262_210 (by decide) ?_
      obtain ⟨nz7, hnz7, rfl⟩ : ∃ zz : Nat, zz = 1 + w ∧ y6 = ((zz : Nat) : Int) := ⟨1 + w, rfl, by omega⟩
      exact ih _ (by omega) f2 nz7 M1 rfl q2 (rq4) (by intro w2 h2 x2 a b c; rw [kq2.2.2 251 (by decide)]; exact hfM w2 h2 x2 a b c) (by rw [p52_M1]; exact hgM) (by omega) (by rw [if_neg hcc] at hfs2; rw [show nz7 = w + 1 by omega]; exact hfs2)
theorem lp_R_sermon2_183 {xs : Nat → Int} {L d : Nat} {sh : List (Nat × Nat)} (hd : 11 ≤ d) (hW : px_W0 <+: sh) {M0 : Nat → Nat → Int}  (hρ : sp_ok (rr_ M0)) {lw : List sp_C} (hlw : px_lwR M0 lw) (hord : M0 228 20 = 0) {pane : Nat} (hpn : pane < 16) {nw : Nat} (hnw : rr_ M0 0 = ((nw : Nat) : Int)) {i : Int} (hi0 : rg i) {er eb ec nn : Int} (hnn : 0 ≤ nn ∧ nn ≤ 300000000) (hi3 : i ≤ 300000000) {res : Nat} {Q : Option Value → px_H → Prop} (kx : ∀ (f : Nat) (g : Nat → Int) (w : Nat) (k : Int) (M : Nat → Nat → Int), px_qk sh [228, 246, 248, 251, 252] M0 M → (rz [] M0 M) → (w = res) → px_R xs L d 262 (244, [.ref 228, .int (iI (((pane : Nat) : Int))), .int (iI (er)), .int (iI (eb)), .int (iI (ec)), .int (iI (i)), .int (iI (nn)), .int (iI (((w : Nat) : Int))), .int (iI (k))], [], (sh, M)) Q)  : ∀ (mz : Nat) (f : Nat) (g : Nat → Int) (w : Nat) (k : Int) (M : Nat → Nat → Int), f = mz → px_qk sh [228, 246, 248, 251, 252] M0 M → (rz [] M0 M) → (∀ w2 h2 x2 : Nat, w2 ≤ 8 → h2 < 3 → x2 < 100 → M 251 (x2 + 100 * h2 + 300 * w2) = lvl (sp_mu lw (rr_ M0) pane) (fun w => rr_ M0 (69 + w)) h2 (8 - w2) x2) → (M 252 = g) → (∀ j, j < 3 → 0 ≤ g j ∧ g j ≤ 99) → (0 ≤ k ∧ k ≤ i + 1) → (srS (sp_mu lw (rr_ M0) pane) (fun w => rr_ M0 (69 + w)) nw nn i f k w g = some res) → px_R xs L d 262 (183, [.ref 228, .int (iI (((pane : Nat) : Int))), .int (iI (er)), .int (iI (eb)), .int (iI (ec)), .int (iI (i)), .int (iI (nn)), .int (iI (((w : Nat) : Int))), .int (iI (k))], [], (sh, M)) Q := by
  intro mz
  induction mz using Nat.strongRecOn with
  | _ mz ih =>
    intro f g w k M hm hq hrq hfM hgM hgb hk hfs
    refine rr_iload pf_262_183 rfl ?_
    refine rr_iload pf_262_185 rfl ?_
    refine rr_icmp_gt 244 pf_262_187 (by decide) (by unfold rg; omega) hi0 (fun c1 => ?_) (fun c1 => ?_)
    · exact kx f g w k M hq (hrq) (srS_e hfs (by omega))
    · refine lp_R_sermon2_190 (xs := xs) (L := L) (d := d) (by omega) hW hρ hlw hord hpn hnw hi0 hnn (by omega) hi3 hgb (F0 := f) (fun f_2 w_3  M4 q5 xrq_M4 xfM_M4 xgM_M4 xF_M4 xw_M4 xcc_M4 xfs_M4 => ?_) _ f w M rfl hq (hrq) (hfM) (hgM) (Nat.le_refl _) (hfs)
      have h0 := hρ.1
      have hxw := xw_M4
      have hxF := xF_M4
      refine rr_aload_n pf_262_213 rfl ?_
      refine rr_getR pf_262_214 po_262 pg_9_125 rfl (ws_228 hW) (by decide) (wr_228_44 q5.1) ?_
      refine rr_aload_n pf_262_217 rfl ?_
      refine rr_getR pf_262_218 po_262 pg_9_13 rfl (ws_228 hW) (by decide) (wr_228_3 q5.1) ?_
      refine rr_bipush pf_262_221 (by decide) ?_
      refine rr_iload pf_262_223 rfl ?_
      refine rr_iadd pf_262_225 ?_
      refine vr_iald (j := 69 + w_3) q5 pf_262_226 (ws_230 hW) (by omega) (by omega) (by decide) (fun x6 hx6 rx6 => ?_)
      rw [q5.2.2 230 (by decide)] at hx6
      rw [rr_at (M := M0) (i := 69 + w_3) (by omega)] at hx6
      have hhb := sp_wh_b hρ (w := w_3) (by omega)
      have hcc := of_decide_eq_true xcc_M4
      dsimp only at hcc
      have hgbh := hgb (rr_ M0 (69 + w_3)).toNat (by omega)
      refine rr_dup2 pf_262_227 rfl rfl ?_
      refine vr_iald (j := (rr_ M0 (69 + w_3)).toNat) q5 pf_262_228 (ws_252 hW) (by omega) (by omega) (by decide) (fun x7 hx7 rx7 => ?_)
      rw [xgM_M4] at hx7
      refine rr_aload_n pf_262_229 rfl ?_
      refine rr_iload pf_262_230 rfl ?_
      refine rr_iload_n pf_262_232 rfl ?_
      obtain ⟨r10, M8, ⟨kq9, pv_M8, pf_M8⟩, hcM8⟩ := ct_R_stainsOf (xs := xs) (L := L) (d := d) (w := w_3) (p := pane) (lw := lw) (by omega) hW q5.1 q5.2.1 (by rw [rr_q q5 (by decide)]; exact hρ) (lwR_q q5 (by decide) hlw) ((xrq_M4 20 (by decide) (by decide)).trans hord) (by omega) hpn
      have q9 := qk_trm q5 kq9 (by decide)
      rw [rr_q q5 (by decide)] at pv_M8
      have rq11 := rz_rq xrq_M4 pf_M8
      refine rr_cV2 pf_262_233 po_262 pc_9_224 (ws_228 hW) po_194 (by decide) rfl hcM8 ?_
      have hmuv : (sp_mu lw (rr_ M0) pane) w_3 = r10 := by unfold sp_mu; rw [if_pos (mu_pos hcc.1)]; omega
      refine rr_isub pf_262_236 ?_
      refine vr_iast (j := (rr_ M0 (69 + w_3)).toNat) hW q9 pf_262_237 (ws_252 hW) (by omega) (by omega) (by decide) (by unfold rg; omega) (by decide) (fun M12 eM12 q13 => ?_)
      have rq14 := rz_ne rq11 eM12 (by decide)
      refine rr_iinc pf_262_238 rfl (fun y => [.ref 228, .int (iI (((pane : Nat) : Int))), .int (iI (er)), .int (iI (eb)), .int (iI (ec)), .int (iI (i)), .int (iI (nn)), .int (iI (((w_3 : Nat) : Int))), .int (iI (y))]) (fun _ => rfl) (fun y15 hy15 => ?_)
      refine rr_goto 183 pf_262_241 (by decide) ?_
      exact ih _ (by omega) f_2 (fup g (rr_ M0 (69 + w_3)).toNat (g (rr_ M0 (69 + w_3)).toNat - (sp_mu lw (rr_ M0) pane) w_3)) w_3 y15 M12 rfl q13 (rq14) (by intro w2 h2 x2 a b c; rw [eM12, ask_ne (by decide), kq9.2.2 251 (by decide)]; exact xfM_M4 w2 h2 x2 a b c) (by rw [up_fup eM12, kq9.2.2 252 (by decide), xgM_M4]; congr 1; omega) (by
                  intro j hj; unfold fup; split
                  · omega
                  · exact hgb j hj) (by omega) (by rw [show (y15 : Int) = k + 1 by omega]; exact xfs_M4)
theorem ct_R_sermon2 {xs : Nat → Int} {L d : Nat} {sh : List (Nat × Nat)} {M0 : Nat → Nat → Int} (hd : 12 ≤ d) (hW : px_W0 <+: sh) (hF : px_Fx M0) (hG : px_RG sh M0)  (hρ : sp_ok (rr_ M0)) {lw : List sp_C} (hlw : px_lwR M0 lw) (hord : M0 228 20 = 0) {pane : Nat} (hpn : pane < 16) {nw : Nat} (hnw : rr_ M0 0 = ((nw : Nat) : Int)) {i : Int} (hi0 : rg i) (hi1 : -1 ≤ i) {er eb ec : Int} (hr : 0 ≤ er ∧ er ≤ 99) (hb : 0 ≤ eb ∧ eb ≤ 99) (hc : 0 ≤ ec ∧ ec ≤ 99) (hwn0 : 0 ≤ er - rr_ M0 (9 + 3 * pane)) (hwn1 : 0 ≤ eb - rr_ M0 (9 + 3 * pane + 1)) (hwn2 : 0 ≤ ec - rr_ M0 (9 + 3 * pane + 2)) {f0 res : Nat} (hfs00 : (alF (sp_mu lw (rr_ M0) pane) (fun w => rr_ M0 (69 + w)) 0 (wgF (M0 252) (rr_ M0) pane er eb ec)) < 100000000 → i < (alF (sp_mu lw (rr_ M0) pane) (fun w => rr_ M0 (69 + w)) 0 (wgF (M0 252) (rr_ M0) pane er eb ec)) → srS (sp_mu lw (rr_ M0) pane) (fun w => rr_ M0 (69 + w)) nw (alF (sp_mu lw (rr_ M0) pane) (fun w => rr_ M0 (69 + w)) 0 (wgF (M0 252) (rr_ M0) pane er eb ec)) i f0 0 0 (wgF (M0 252) (rr_ M0) pane er eb ec) = some res) : ∃ v M, (px_qk sh [228, 246, 248, 251, 252] M0 M ∧ (v = if 100000000 ≤ (alF (sp_mu lw (rr_ M0) pane) (fun w => rr_ M0 (69 + w)) 0 (wgF (M0 252) (rr_ M0) pane er eb ec)) ∨ (alF (sp_mu lw (rr_ M0) pane) (fun w => rr_ M0 (69 + w)) 0 (wgF (M0 252) (rr_ M0) pane er eb ec)) ≤ i then -1 else if i = -1 then (alF (sp_mu lw (rr_ M0) pane) (fun w => rr_ M0 (69 + w)) 0 (wgF (M0 252) (rr_ M0) pane er eb ec)) else ((res : Nat) : Int)) ∧ (rz [] M0 M)) ∧ px_Cl xs L d 262 [.ref 228, .int (iI (((pane : Nat) : Int))), .int (iI (er)), .int (iI (eb)), .int (iI (ec)), .int (iI (i))] (sh, M0) (some (.int (iI v))) (sh, M) := by
  obtain ⟨d, rfl⟩ : ∃ e, d = e + 1 := ⟨d - 1, by omega⟩
  have q0 : px_qk sh [228, 246, 248, 251, 252] M0 M0 := ⟨hF, hG, eo_rf⟩
  refine vc_i (Nat.le_of_ble_eq_true rfl) ?_
  show px_R xs L d 262 (0, [.ref 228, .int (iI (((pane : Nat) : Int))), .int (iI (er)), .int (iI (eb)), .int (iI (ec)), .int (iI (i)), px_jk, px_jk, px_jk], [], (sh, M0)) (fun r h' => ∃ v M', r = some (.int (iI v)) ∧ h' = (sh, M') ∧ px_qk sh [228, 246, 248, 251, 252] M0 M' ∧ (v = if 100000000 ≤ (alF (sp_mu lw (rr_ M0) pane) (fun w => rr_ M0 (69 + w)) 0 (wgF (M0 252) (rr_ M0) pane er eb ec)) ∨ (alF (sp_mu lw (rr_ M0) pane) (fun w => rr_ M0 (69 + w)) 0 (wgF (M0 252) (rr_ M0) pane er eb ec)) ≤ i then -1 else if i = -1 then (alF (sp_mu lw (rr_ M0) pane) (fun w => rr_ M0 (69 + w)) 0 (wgF (M0 252) (rr_ M0) pane er eb ec)) else ((res : Nat) : Int)) ∧ rz [] M0 M')
  refine rr_aload_n pf_262_0 rfl ?_
  refine rr_iconst pf_262_1 ?_
  refine vr_putI hW q0 pf_262_2 po_262 pg_9_177 (Or.inl rfl) rfl (ws_228 hW) (by decide) (by unfold rg; omega) (by decide) (fun M1 eM1 q2 => ?_)
  have rq3 := rz_up (rz_rf [] M0) eM1 (by decide)
  refine rr_iload_n pf_262_5 rfl ?_
  refine rr_cS1 pf_262_6 po_262 pc_9_228 (by decide) rfl (ct_R_isPane (by omega) (by unfold rg; omega)) ?_
  refine rr_ifb_eq 55 pf_262_9 (by decide) (fun c4 => ?_) (fun c4 => ?_)
  · exfalso; omega
  · refine rr_iload_n pf_262_12 rfl ?_
    refine rr_i2l pf_262_13 (by unfold rg; omega) ?_
    refine rr_lconst (w := 0) pf_262_14 rfl ?_
    refine rr_ldc2_w pf_262_15 po_262 pl_9_243 ?_
    refine rr_cS3 pf_262_18 po_262 pc_9_197 (by decide) rfl (ct_R_in (by omega) (by unfold rl; omega) (by unfold rl; omega) (by unfold rl; omega)) ?_
    refine rr_ifb_eq 55 pf_262_21 (by decide) (fun c5 => ?_) (fun c5 => ?_)
    · exfalso; omega
    · refine rr_iload_n pf_262_24 rfl ?_
      refine rr_i2l pf_262_25 (by unfold rg; omega) ?_
      refine rr_lconst (w := 0) pf_262_26 rfl ?_
      refine rr_ldc2_w pf_262_27 po_262 pl_9_243 ?_
      refine rr_cS3 pf_262_30 po_262 pc_9_197 (by decide) rfl (ct_R_in (by omega) (by unfold rl; omega) (by unfold rl; omega) (by unfold rl; omega)) ?_
      refine rr_ifb_eq 55 pf_262_33 (by decide) (fun c6 => ?_) (fun c6 => ?_)
      · exfalso; omega
      · refine rr_iload pf_262_36 rfl ?_
        refine rr_i2l pf_262_38 (by unfold rg; omega) ?_
        refine rr_lconst (w := 0) pf_262_39 rfl ?_
        refine rr_ldc2_w pf_262_40 po_262 pl_9_243 ?_
        refine rr_cS3 pf_262_43 po_262 pc_9_197 (by decide) rfl (ct_R_in (by omega) (by unfold rl; omega) (by unfold rl; omega) (by unfold rl; omega)) ?_
        refine rr_ifb_eq 55 pf_262_46 (by decide) (fun c7 => ?_) (fun c7 => ?_)
        · exfalso; omega
        · refine rr_iload pf_262_49 rfl ?_
          refine rr_iconst pf_262_51 ?_
          refine rr_icmp_ge 57 pf_262_52 (by decide) hi0 (by unfold rg; omega) (fun c8 => ?_) (fun c8 => ?_)
          · refine rr_aload_n pf_262_57 rfl ?_
            refine rr_getR pf_262_58 po_262 pg_9_125 rfl (ws_228 hW) (by decide) (wr_228_44 q2.1) ?_
            refine rr_iconst pf_262_61 ?_
            refine rr_iload_n pf_262_62 rfl ?_
            refine rr_aload_n pf_262_63 rfl ?_
            refine rr_getR pf_262_64 po_262 pg_9_13 rfl (ws_228 hW) (by decide) (wr_228_3 q2.1) ?_
            refine rr_bipush pf_262_67 (by decide) ?_
            refine rr_iconst pf_262_69 ?_
            refine rr_iload_n pf_262_70 rfl ?_
            refine rr_imul pf_262_71 ?_
            refine rr_iadd pf_262_72 ?_
            refine vr_iald (j := 9 + 3 * pane) q2 pf_262_73 (ws_230 hW) (by omega) (by omega) (by decide) (fun x9 hx9 rx9 => ?_)
            rw [q2.2.2 230 (by decide)] at hx9
            rw [rr_at (M := M0) (i := 9 + 3 * pane) (by omega)] at hx9
            have hhb : 0 ≤ rr_ M0 (9 + 3 * pane) ∧ rr_ M0 (9 + 3 * pane) ≤ 99 := hρ.2.2.2.2.2.2.2.2.2.1 (3 * pane) (by omega)
            refine rr_isub pf_262_74 ?_
            refine vr_iast (j := 0) hW q2 pf_262_75 (ws_252 hW) (by omega) (by omega) (by decide) (by unfold rg; omega) (by decide) (fun M10 eM10 q11 => ?_)
            have rq12 := rz_ne rq3 eM10 (by decide)
            refine rr_aload_n pf_262_76 rfl ?_
            refine rr_getR pf_262_77 po_262 pg_9_125 rfl (ws_228 hW) (by decide) (wr_228_44 q11.1) ?_
            refine rr_iconst pf_262_80 ?_
            refine rr_iload_n pf_262_81 rfl ?_
            refine rr_aload_n pf_262_82 rfl ?_
            refine rr_getR pf_262_83 po_262 pg_9_13 rfl (ws_228 hW) (by decide) (wr_228_3 q11.1) ?_
            refine rr_bipush pf_262_86 (by decide) ?_
            refine rr_iconst pf_262_88 ?_
            refine rr_iload_n pf_262_89 rfl ?_
            refine rr_imul pf_262_90 ?_
            refine rr_iadd pf_262_91 ?_
            refine rr_iconst pf_262_92 ?_
            refine rr_iadd pf_262_93 ?_
            refine vr_iald (j := 9 + 3 * pane + 1) q11 pf_262_94 (ws_230 hW) (by omega) (by omega) (by decide) (fun x13 hx13 rx13 => ?_)
            rw [q11.2.2 230 (by decide)] at hx13
            rw [rr_at (M := M0) (i := 9 + 3 * pane + 1) (by omega)] at hx13
            have hhb_1 : 0 ≤ rr_ M0 (9 + 3 * pane + 1) ∧ rr_ M0 (9 + 3 * pane + 1) ≤ 99 := hρ.2.2.2.2.2.2.2.2.2.1 (3 * pane + 1) (by omega)
            refine rr_isub pf_262_95 ?_
            refine vr_iast (j := 1) hW q11 pf_262_96 (ws_252 hW) (by omega) (by omega) (by decide) (by unfold rg; omega) (by decide) (fun M14 eM14 q15 => ?_)
            have rq16 := rz_ne rq12 eM14 (by decide)
            refine rr_aload_n pf_262_97 rfl ?_
            refine rr_getR pf_262_98 po_262 pg_9_125 rfl (ws_228 hW) (by decide) (wr_228_44 q15.1) ?_
            refine rr_iconst pf_262_101 ?_
            refine rr_iload pf_262_102 rfl ?_
            refine rr_aload_n pf_262_104 rfl ?_
            refine rr_getR pf_262_105 po_262 pg_9_13 rfl (ws_228 hW) (by decide) (wr_228_3 q15.1) ?_
            refine rr_bipush pf_262_108 (by decide) ?_
            refine rr_iconst pf_262_110 ?_
            refine rr_iload_n pf_262_111 rfl ?_
            refine rr_imul pf_262_112 ?_
            refine rr_iadd pf_262_113 ?_
            refine rr_iconst pf_262_114 ?_
            refine rr_iadd pf_262_115 ?_
            refine vr_iald (j := 9 + 3 * pane + 2) q15 pf_262_116 (ws_230 hW) (by omega) (by omega) (by decide) (fun x17 hx17 rx17 => ?_)
            rw [q15.2.2 230 (by decide)] at hx17
            rw [rr_at (M := M0) (i := 9 + 3 * pane + 2) (by omega)] at hx17
            have hhb_2 : 0 ≤ rr_ M0 (9 + 3 * pane + 2) ∧ rr_ M0 (9 + 3 * pane + 2) ≤ 99 := hρ.2.2.2.2.2.2.2.2.2.1 (3 * pane + 2) (by omega)
            refine rr_isub pf_262_117 ?_
            refine vr_iast (j := 2) hW q15 pf_262_118 (ws_252 hW) (by omega) (by omega) (by decide) (by unfold rg; omega) (by decide) (fun M18 eM18 q19 => ?_)
            have rq20 := rz_ne rq16 eM18 (by decide)
            refine rr_aload_n pf_262_119 rfl ?_
            refine rr_getR pf_262_120 po_262 pg_9_125 rfl (ws_228 hW) (by decide) (wr_228_44 q19.1) ?_
            refine rr_iconst pf_262_123 ?_
            refine vr_iald (j := 0) q19 pf_262_124 (ws_252 hW) (by omega) (by omega) (by decide) (fun x21 hx21 rx21 => ?_)
            rw [eM18, up_ne (by decide), eM14, up_ne (by decide), eM10, up_s] at hx21
            refine rr_if_lt 146 pf_262_125 (by decide) rx21 (fun c22 => ?_) (fun c22 => ?_)
            · exfalso; omega
            · refine rr_aload_n pf_262_128 rfl ?_
              refine rr_getR pf_262_129 po_262 pg_9_125 rfl (ws_228 hW) (by decide) (wr_228_44 q19.1) ?_
              refine rr_iconst pf_262_132 ?_
              refine vr_iald (j := 1) q19 pf_262_133 (ws_252 hW) (by omega) (by omega) (by decide) (fun x23 hx23 rx23 => ?_)
              rw [eM18, up_ne (by decide), eM14, up_s] at hx23
              refine rr_if_lt 146 pf_262_134 (by decide) rx23 (fun c24 => ?_) (fun c24 => ?_)
              · exfalso; omega
              · refine rr_aload_n pf_262_137 rfl ?_
                refine rr_getR pf_262_138 po_262 pg_9_125 rfl (ws_228 hW) (by decide) (wr_228_44 q19.1) ?_
                refine rr_iconst pf_262_141 ?_
                refine vr_iald (j := 2) q19 pf_262_142 (ws_252 hW) (by omega) (by omega) (by decide) (fun x25 hx25 rx25 => ?_)
                rw [eM18, up_s] at hx25
                refine rr_if_ge 148 pf_262_143 (by decide) rx25 (fun c26 => ?_) (fun c26 => ?_)
                · have hgq : M18 252 = (wgF (M0 252) (rr_ M0) pane er eb ec) := by
                    unfold wgF
                    rw [up_fup eM18, up_fup eM14, up_fup eM10, eM1, ask_ne (by decide)]
                    congr 1
                    · congr 1
                      · congr 1; omega
                      · omega
                    · omega
                  have hgb0 : ∀ j, j < 3 → 0 ≤ (wgF (M0 252) (rr_ M0) pane er eb ec) j ∧ (wgF (M0 252) (rr_ M0) pane er eb ec) j ≤ 99 := by
                    intro j hj; unfold wgF fup; split
                    · omega
                    · split
                      · omega
                      · split
                        · omega
                        · exfalso; omega
                  refine rr_aload_n pf_262_148 rfl ?_
                  refine rr_iload_n pf_262_149 rfl ?_
                  obtain ⟨M27, ⟨kq28, pw_M27, pf_M27⟩, hcM27⟩ := ct_R_layFewest (xs := xs) (L := L) (d := d) (pane := pane) (lw := lw) (by omega) hW q19.1 q19.2.1 (by rw [rr_q q19 (by decide)]; exact hρ) (lwR_q q19 (by decide) hlw) ((rq20 20 (by decide) (by decide)).trans hord) (by omega)
                  have q28 := qk_trm q19 kq28 (by decide)
                  rw [rr_q q19 (by decide)] at pw_M27
                  have rq30 := rz_rq rq20 pf_M27
                  refine rr_cV1 pf_262_150 po_262 pc_9_510 (ws_228 hW) po_263 (by decide) rfl hcM27 ?_
                  have hg3 : M27 252 = (wgF (M0 252) (rr_ M0) pane er eb ec) := (kq28.2.2 252 (by decide)).trans hgq
                  refine rr_aload_n pf_262_153 rfl ?_
                  refine rr_iconst pf_262_154 ?_
                  obtain ⟨r33, M31, ⟨kq32, pv_M31⟩, hcM31⟩ := ct_R_allFrom (xs := xs) (L := L) (d := d) (w := 0) (lw := lw) (pane := pane) (by omega) hW q28.1 q28.2.1 (fun w2 h2 x2 a b c => by rw [rr_q q28 (by decide)]; exact pw_M27 w2 h2 x2 a b c) (by rw [hg3]; exact hgb0) (by omega)
                  rw [show ((0 : Nat) : Int) = 0 by omega] at hcM31
                  obtain rfl := qk_nil kq32
                  rw [rr_q q28 (by decide)] at pv_M31
                  refine rr_cV1 pf_262_155 po_262 pc_9_507 (ws_228 hW) po_265 (by decide) rfl hcM31 ?_
                  rw [hg3] at pv_M31
                  have hnb := alF_b (sp_mu lw (rr_ M0) pane) (fun w => rr_ M0 (69 + w)) 0 (wgF (M0 252) (rr_ M0) pane er eb ec)
                  refine rr_istore pf_262_158 (fun y => [.ref 228, .int (iI (((pane : Nat) : Int))), .int (iI (er)), .int (iI (eb)), .int (iI (ec)), .int (iI (i)), .int (iI (y)), px_jk, px_jk]) (Nat.le_of_ble_eq_true rfl) (fun _ => rfl) (fun y34 hy34 => ?_)
                  refine rr_iload pf_262_160 rfl ?_
                  refine rr_ldc_w pf_262_162 po_262 pk_9_502 ?_
                  refine rr_icmp_ge 175 pf_262_165 (by decide) (by unfold rg; omega) (by unfold rg; omega) (fun c35 => ?_) (fun c35 => ?_)
                  · refine rr_iconst pf_262_175 ?_
                    refine rr_iret pf_262_176 pt_262 ⟨_, M27, rfl, rfl, q28, (by rw [if_pos (by omega)]), (rq30)⟩
                  · refine rr_iload pf_262_168 rfl ?_
                    refine rr_iload pf_262_170 rfl ?_
                    refine rr_icmp_lt 177 pf_262_172 (by decide) hi0 (by unfold rg; omega) (fun c36 => ?_) (fun c36 => ?_)
                    · have hfs0 := hfs00 (by omega) (by omega)
                      refine rr_iconst pf_262_177 ?_
                      refine rr_istore pf_262_178 (fun y => [.ref 228, .int (iI (((pane : Nat) : Int))), .int (iI (er)), .int (iI (eb)), .int (iI (ec)), .int (iI (i)), .int (iI (y34)), .int (iI (y)), px_jk]) (Nat.le_of_ble_eq_true rfl) (fun _ => rfl) (fun y37 hy37 => ?_)
                      refine rr_iconst pf_262_180 ?_
                      refine rr_istore pf_262_181 (fun y => [.ref 228, .int (iI (((pane : Nat) : Int))), .int (iI (er)), .int (iI (eb)), .int (iI (ec)), .int (iI (i)), .int (iI (y34)), .int (iI (y37)), .int (iI (y))]) (Nat.le_of_ble_eq_true rfl) (fun _ => rfl) (fun y38 hy38 => ?_)
                      obtain ⟨nz39, hnz39, rfl⟩ : ∃ zz : Nat, zz = 0 ∧ y37 = ((zz : Nat) : Int) := ⟨0, rfl, by omega⟩
                      refine lp_R_sermon2_183 (xs := xs) (L := L) (d := d) (by omega) hW hρ hlw hord hpn hnw hi0 (by omega) (by omega) (fun f_40 g_41 w_42 k_43  M44 q45 xrq_M44 xw_M44 => ?_) _ f0 (wgF (M0 252) (rr_ M0) pane er eb ec) nz39 y38 M27 rfl q28 (rq30) (pw_M27) (hg3) (hgb0) (by omega) (by rw [show (y38 : Int) = 0 by omega, show nz39 = 0 by omega, show (y34 : Int) = (alF (sp_mu lw (rr_ M0) pane) (fun w => rr_ M0 (69 + w)) 0 (wgF (M0 252) (rr_ M0) pane er eb ec)) by omega]; exact hfs0)
                      refine rr_iload pf_262_244 rfl ?_
                      refine rr_iconst pf_262_246 ?_
                      refine rr_icmp_ne 255 pf_262_247 (by decide) hi0 (by unfold rg; omega) (fun c46 => ?_) (fun c46 => ?_)
                      · refine rr_iload pf_262_255 rfl ?_
                        refine rr_iret pf_262_257 pt_262 ⟨_, M44, rfl, rfl, q45, (by rw [if_neg (by omega), if_neg (by omega)]; have := xw_M44; omega), (xrq_M44)⟩
                      · refine rr_iload pf_262_250 rfl ?_
                        refine rr_goto 257 pf_262_252 (by decide) ?_
                        refine rr_iret pf_262_257 pt_262 ⟨_, M44, rfl, rfl, q45, (by rw [if_neg (by omega), if_pos (by omega)]; omega), (xrq_M44)⟩
                    · refine rr_iconst pf_262_175 ?_
                      refine rr_iret pf_262_176 pt_262 ⟨_, M27, rfl, rfl, q28, (by rw [if_pos (by omega)]), (rq30)⟩
                · exfalso; omega
          · exfalso; omega
theorem ct_R_sermon1 {xs : Nat → Int} {L d : Nat} {sh : List (Nat × Nat)} {M0 : Nat → Nat → Int} (hd : 4 ≤ d) (hW : px_W0 <+: sh) (hF : px_Fx M0) (hG : px_RG sh M0)  (hρ : sp_ok (rr_ M0)) {pane : Nat} (hpn : pane < 16) {er eb ec : Int} (hr : 0 ≤ er ∧ er ≤ 99) (hb : 0 ≤ eb ∧ eb ≤ 99) (hc : 0 ≤ ec ∧ ec ≤ 99) {i : Int} (hi0 : rg i) (hi1 : -1 ≤ i) (hx : er - rr_ M0 (9 + 3 * pane) < 0 ∨ eb - rr_ M0 (9 + 3 * pane + 1) < 0 ∨ ec - rr_ M0 (9 + 3 * pane + 2) < 0) : ∃ v M, (px_qk sh [228, 252] M0 M ∧ (v = -1) ∧ (rz [] M0 M)) ∧ px_Cl xs L d 262 [.ref 228, .int (iI (((pane : Nat) : Int))), .int (iI (er)), .int (iI (eb)), .int (iI (ec)), .int (iI (i))] (sh, M0) (some (.int (iI v))) (sh, M) := by
  obtain ⟨d, rfl⟩ : ∃ e, d = e + 1 := ⟨d - 1, by omega⟩
  have q0 : px_qk sh [228, 252] M0 M0 := ⟨hF, hG, eo_rf⟩
  refine vc_i (Nat.le_of_ble_eq_true rfl) ?_
  show px_R xs L d 262 (0, [.ref 228, .int (iI (((pane : Nat) : Int))), .int (iI (er)), .int (iI (eb)), .int (iI (ec)), .int (iI (i)), px_jk, px_jk, px_jk], [], (sh, M0)) (fun r h' => ∃ v M', r = some (.int (iI v)) ∧ h' = (sh, M') ∧ px_qk sh [228, 252] M0 M' ∧ v = -1 ∧ rz [] M0 M')
  refine rr_aload_n pf_262_0 rfl ?_
  refine rr_iconst pf_262_1 ?_
  refine vr_putI hW q0 pf_262_2 po_262 pg_9_177 (Or.inl rfl) rfl (ws_228 hW) (by decide) (by unfold rg; omega) (by decide) (fun M1 eM1 q2 => ?_)
  have rq3 := rz_up (rz_rf [] M0) eM1 (by decide)
  refine rr_iload_n pf_262_5 rfl ?_
  refine rr_cS1 pf_262_6 po_262 pc_9_228 (by decide) rfl (ct_R_isPane (by omega) (by unfold rg; omega)) ?_
  refine rr_ifb_eq 55 pf_262_9 (by decide) (fun c4 => ?_) (fun c4 => ?_)
  · exfalso; omega
  · refine rr_iload_n pf_262_12 rfl ?_
    refine rr_i2l pf_262_13 (by unfold rg; omega) ?_
    refine rr_lconst (w := 0) pf_262_14 rfl ?_
    refine rr_ldc2_w pf_262_15 po_262 pl_9_243 ?_
    refine rr_cS3 pf_262_18 po_262 pc_9_197 (by decide) rfl (ct_R_in (by omega) (by unfold rl; omega) (by unfold rl; omega) (by unfold rl; omega)) ?_
    refine rr_ifb_eq 55 pf_262_21 (by decide) (fun c5 => ?_) (fun c5 => ?_)
    · exfalso; omega
    · refine rr_iload_n pf_262_24 rfl ?_
      refine rr_i2l pf_262_25 (by unfold rg; omega) ?_
      refine rr_lconst (w := 0) pf_262_26 rfl ?_
      refine rr_ldc2_w pf_262_27 po_262 pl_9_243 ?_
      refine rr_cS3 pf_262_30 po_262 pc_9_197 (by decide) rfl (ct_R_in (by omega) (by unfold rl; omega) (by unfold rl; omega) (by unfold rl; omega)) ?_
      refine rr_ifb_eq 55 pf_262_33 (by decide) (fun c6 => ?_) (fun c6 => ?_)
      · exfalso; omega
      · refine rr_iload pf_262_36 rfl ?_
        refine rr_i2l pf_262_38 (by unfold rg; omega) ?_
        refine rr_lconst (w := 0) pf_262_39 rfl ?_
        refine rr_ldc2_w pf_262_40 po_262 pl_9_243 ?_
        refine rr_cS3 pf_262_43 po_262 pc_9_197 (by decide) rfl (ct_R_in (by omega) (by unfold rl; omega) (by unfold rl; omega) (by unfold rl; omega)) ?_
        refine rr_ifb_eq 55 pf_262_46 (by decide) (fun c7 => ?_) (fun c7 => ?_)
        · exfalso; omega
        · refine rr_iload pf_262_49 rfl ?_
          refine rr_iconst pf_262_51 ?_
          refine rr_icmp_ge 57 pf_262_52 (by decide) hi0 (by unfold rg; omega) (fun c8 => ?_) (fun c8 => ?_)
          · refine rr_aload_n pf_262_57 rfl ?_
            refine rr_getR pf_262_58 po_262 pg_9_125 rfl (ws_228 hW) (by decide) (wr_228_44 q2.1) ?_
            refine rr_iconst pf_262_61 ?_
            refine rr_iload_n pf_262_62 rfl ?_
            refine rr_aload_n pf_262_63 rfl ?_
            refine rr_getR pf_262_64 po_262 pg_9_13 rfl (ws_228 hW) (by decide) (wr_228_3 q2.1) ?_
            refine rr_bipush pf_262_67 (by decide) ?_
            refine rr_iconst pf_262_69 ?_
            refine rr_iload_n pf_262_70 rfl ?_
            refine rr_imul pf_262_71 ?_
            refine rr_iadd pf_262_72 ?_
            refine vr_iald (j := 9 + 3 * pane) q2 pf_262_73 (ws_230 hW) (by omega) (by omega) (by decide) (fun x9 hx9 rx9 => ?_)
            rw [q2.2.2 230 (by decide)] at hx9
            rw [rr_at (M := M0) (i := 9 + 3 * pane) (by omega)] at hx9
            have hhb : 0 ≤ rr_ M0 (9 + 3 * pane) ∧ rr_ M0 (9 + 3 * pane) ≤ 99 := hρ.2.2.2.2.2.2.2.2.2.1 (3 * pane) (by omega)
            refine rr_isub pf_262_74 ?_
            refine vr_iast (j := 0) hW q2 pf_262_75 (ws_252 hW) (by omega) (by omega) (by decide) (by unfold rg; omega) (by decide) (fun M10 eM10 q11 => ?_)
            have rq12 := rz_ne rq3 eM10 (by decide)
            refine rr_aload_n pf_262_76 rfl ?_
            refine rr_getR pf_262_77 po_262 pg_9_125 rfl (ws_228 hW) (by decide) (wr_228_44 q11.1) ?_
            refine rr_iconst pf_262_80 ?_
            refine rr_iload_n pf_262_81 rfl ?_
            refine rr_aload_n pf_262_82 rfl ?_
            refine rr_getR pf_262_83 po_262 pg_9_13 rfl (ws_228 hW) (by decide) (wr_228_3 q11.1) ?_
            refine rr_bipush pf_262_86 (by decide) ?_
            refine rr_iconst pf_262_88 ?_
            refine rr_iload_n pf_262_89 rfl ?_
            refine rr_imul pf_262_90 ?_
            refine rr_iadd pf_262_91 ?_
            refine rr_iconst pf_262_92 ?_
            refine rr_iadd pf_262_93 ?_
            refine vr_iald (j := 9 + 3 * pane + 1) q11 pf_262_94 (ws_230 hW) (by omega) (by omega) (by decide) (fun x13 hx13 rx13 => ?_)
            rw [q11.2.2 230 (by decide)] at hx13
            rw [rr_at (M := M0) (i := 9 + 3 * pane + 1) (by omega)] at hx13
            have hhb_1 : 0 ≤ rr_ M0 (9 + 3 * pane + 1) ∧ rr_ M0 (9 + 3 * pane + 1) ≤ 99 := hρ.2.2.2.2.2.2.2.2.2.1 (3 * pane + 1) (by omega)
            refine rr_isub pf_262_95 ?_
            refine vr_iast (j := 1) hW q11 pf_262_96 (ws_252 hW) (by omega) (by omega) (by decide) (by unfold rg; omega) (by decide) (fun M14 eM14 q15 => ?_)
            have rq16 := rz_ne rq12 eM14 (by decide)
            refine rr_aload_n pf_262_97 rfl ?_
            refine rr_getR pf_262_98 po_262 pg_9_125 rfl (ws_228 hW) (by decide) (wr_228_44 q15.1) ?_
            refine rr_iconst pf_262_101 ?_
            refine rr_iload pf_262_102 rfl ?_
            refine rr_aload_n pf_262_104 rfl ?_
            refine rr_getR pf_262_105 po_262 pg_9_13 rfl (ws_228 hW) (by decide) (wr_228_3 q15.1) ?_
            refine rr_bipush pf_262_108 (by decide) ?_
            refine rr_iconst pf_262_110 ?_
            refine rr_iload_n pf_262_111 rfl ?_
            refine rr_imul pf_262_112 ?_
            refine rr_iadd pf_262_113 ?_
            refine rr_iconst pf_262_114 ?_
            refine rr_iadd pf_262_115 ?_
            refine vr_iald (j := 9 + 3 * pane + 2) q15 pf_262_116 (ws_230 hW) (by omega) (by omega) (by decide) (fun x17 hx17 rx17 => ?_)
            rw [q15.2.2 230 (by decide)] at hx17
            rw [rr_at (M := M0) (i := 9 + 3 * pane + 2) (by omega)] at hx17
            have hhb_2 : 0 ≤ rr_ M0 (9 + 3 * pane + 2) ∧ rr_ M0 (9 + 3 * pane + 2) ≤ 99 := hρ.2.2.2.2.2.2.2.2.2.1 (3 * pane + 2) (by omega)
            refine rr_isub pf_262_117 ?_
            refine vr_iast (j := 2) hW q15 pf_262_118 (ws_252 hW) (by omega) (by omega) (by decide) (by unfold rg; omega) (by decide) (fun M18 eM18 q19 => ?_)
            have rq20 := rz_ne rq16 eM18 (by decide)
            refine rr_aload_n pf_262_119 rfl ?_
            refine rr_getR pf_262_120 po_262 pg_9_125 rfl (ws_228 hW) (by decide) (wr_228_44 q19.1) ?_
            refine rr_iconst pf_262_123 ?_
            refine vr_iald (j := 0) q19 pf_262_124 (ws_252 hW) (by omega) (by omega) (by decide) (fun x21 hx21 rx21 => ?_)
            rw [eM18, up_ne (by decide), eM14, up_ne (by decide), eM10, up_s] at hx21
            refine rr_if_lt 146 pf_262_125 (by decide) rx21 (fun c22 => ?_) (fun c22 => ?_)
            · refine rr_iconst pf_262_146 ?_
              refine rr_iret pf_262_147 pt_262 ⟨_, M18, rfl, rfl, q19, (by rfl), (rq20)⟩
            · refine rr_aload_n pf_262_128 rfl ?_
              refine rr_getR pf_262_129 po_262 pg_9_125 rfl (ws_228 hW) (by decide) (wr_228_44 q19.1) ?_
              refine rr_iconst pf_262_132 ?_
              refine vr_iald (j := 1) q19 pf_262_133 (ws_252 hW) (by omega) (by omega) (by decide) (fun x23 hx23 rx23 => ?_)
              rw [eM18, up_ne (by decide), eM14, up_s] at hx23
              refine rr_if_lt 146 pf_262_134 (by decide) rx23 (fun c24 => ?_) (fun c24 => ?_)
              · refine rr_iconst pf_262_146 ?_
                refine rr_iret pf_262_147 pt_262 ⟨_, M18, rfl, rfl, q19, (by rfl), (rq20)⟩
              · refine rr_aload_n pf_262_137 rfl ?_
                refine rr_getR pf_262_138 po_262 pg_9_125 rfl (ws_228 hW) (by decide) (wr_228_44 q19.1) ?_
                refine rr_iconst pf_262_141 ?_
                refine vr_iald (j := 2) q19 pf_262_142 (ws_252 hW) (by omega) (by omega) (by decide) (fun x25 hx25 rx25 => ?_)
                rw [eM18, up_s] at hx25
                refine rr_if_ge 148 pf_262_143 (by decide) rx25 (fun c26 => ?_) (fun c26 => ?_)
                · exfalso; omega
                · refine rr_iconst pf_262_146 ?_
                  refine rr_iret pf_262_147 pt_262 ⟨_, M18, rfl, rfl, q19, (by rfl), (rq20)⟩
          · exfalso; omega
theorem ct_R_sermon0 {xs : Nat → Int} {L d : Nat} {sh : List (Nat × Nat)} {M0 : Nat → Nat → Int} (hd : 4 ≤ d) (hW : px_W0 <+: sh) (hF : px_Fx M0) (hG : px_RG sh M0)  {pn er eb ec i : Int} (hpn0 : rg pn) (her0 : rg er) (heb0 : rg eb) (hec0 : rg ec) (hi0 : rg i) (hx : ¬ ((0 ≤ pn ∧ pn ≤ 15) ∧ (0 ≤ er ∧ er ≤ 99) ∧ (0 ≤ eb ∧ eb ≤ 99) ∧ (0 ≤ ec ∧ ec ≤ 99) ∧ -1 ≤ i)) : ∃ v M, (px_qk sh [228] M0 M ∧ (v = -1) ∧ (rz [] M0 M)) ∧ px_Cl xs L d 262 [.ref 228, .int (iI (pn)), .int (iI (er)), .int (iI (eb)), .int (iI (ec)), .int (iI (i))] (sh, M0) (some (.int (iI v))) (sh, M) := by
  obtain ⟨d, rfl⟩ : ∃ e, d = e + 1 := ⟨d - 1, by omega⟩
  have q0 : px_qk sh [228] M0 M0 := ⟨hF, hG, eo_rf⟩
  refine vc_i (Nat.le_of_ble_eq_true rfl) ?_
  show px_R xs L d 262 (0, [.ref 228, .int (iI (pn)), .int (iI (er)), .int (iI (eb)), .int (iI (ec)), .int (iI (i)), px_jk, px_jk, px_jk], [], (sh, M0)) (fun r h' => ∃ v M', r = some (.int (iI v)) ∧ h' = (sh, M') ∧ px_qk sh [228] M0 M' ∧ v = -1 ∧ rz [] M0 M')
  refine rr_aload_n pf_262_0 rfl ?_
  refine rr_iconst pf_262_1 ?_
  refine vr_putI hW q0 pf_262_2 po_262 pg_9_177 (Or.inl rfl) rfl (ws_228 hW) (by decide) (by unfold rg; omega) (by decide) (fun M1 eM1 q2 => ?_)
  have rq3 := rz_up (rz_rf [] M0) eM1 (by decide)
  refine rr_iload_n pf_262_5 rfl ?_
  refine rr_cS1 pf_262_6 po_262 pc_9_228 (by decide) rfl (ct_R_isPane (by omega) hpn0) ?_
  refine rr_ifb_eq 55 pf_262_9 (by decide) (fun c4 => ?_) (fun c4 => ?_)
  · refine rr_iconst pf_262_55 ?_
    refine rr_iret pf_262_56 pt_262 ⟨_, M1, rfl, rfl, q2, (by rfl), (rq3)⟩
  · refine rr_iload_n pf_262_12 rfl ?_
    refine rr_i2l pf_262_13 her0 ?_
    refine rr_lconst (w := 0) pf_262_14 rfl ?_
    refine rr_ldc2_w pf_262_15 po_262 pl_9_243 ?_
    refine rr_cS3 pf_262_18 po_262 pc_9_197 (by decide) rfl (ct_R_in (by omega) (rl_rg her0) (by unfold rl; omega) (by unfold rl; omega)) ?_
    refine rr_ifb_eq 55 pf_262_21 (by decide) (fun c5 => ?_) (fun c5 => ?_)
    · refine rr_iconst pf_262_55 ?_
      refine rr_iret pf_262_56 pt_262 ⟨_, M1, rfl, rfl, q2, (by rfl), (rq3)⟩
    · refine rr_iload_n pf_262_24 rfl ?_
      refine rr_i2l pf_262_25 heb0 ?_
      refine rr_lconst (w := 0) pf_262_26 rfl ?_
      refine rr_ldc2_w pf_262_27 po_262 pl_9_243 ?_
      refine rr_cS3 pf_262_30 po_262 pc_9_197 (by decide) rfl (ct_R_in (by omega) (rl_rg heb0) (by unfold rl; omega) (by unfold rl; omega)) ?_
      refine rr_ifb_eq 55 pf_262_33 (by decide) (fun c6 => ?_) (fun c6 => ?_)
      · refine rr_iconst pf_262_55 ?_
        refine rr_iret pf_262_56 pt_262 ⟨_, M1, rfl, rfl, q2, (by rfl), (rq3)⟩
      · refine rr_iload pf_262_36 rfl ?_
        refine rr_i2l pf_262_38 hec0 ?_
        refine rr_lconst (w := 0) pf_262_39 rfl ?_
        refine rr_ldc2_w pf_262_40 po_262 pl_9_243 ?_
        refine rr_cS3 pf_262_43 po_262 pc_9_197 (by decide) rfl (ct_R_in (by omega) (rl_rg hec0) (by unfold rl; omega) (by unfold rl; omega)) ?_
        refine rr_ifb_eq 55 pf_262_46 (by decide) (fun c7 => ?_) (fun c7 => ?_)
        · refine rr_iconst pf_262_55 ?_
          refine rr_iret pf_262_56 pt_262 ⟨_, M1, rfl, rfl, q2, (by rfl), (rq3)⟩
        · refine rr_iload pf_262_49 rfl ?_
          refine rr_iconst pf_262_51 ?_
          refine rr_icmp_ge 57 pf_262_52 (by decide) hi0 (by unfold rg; omega) (fun c8 => ?_) (fun c8 => ?_)
          · exfalso; omega
          · refine rr_iconst pf_262_55 ?_
            refine rr_iret pf_262_56 pt_262 ⟨_, M1, rfl, rfl, q2, (by rfl), (rq3)⟩

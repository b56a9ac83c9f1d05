/-! the pane to look at -/
def alN (lw : List sp_C) (ρ : Nat → Int) (n p : Nat) : Nat → Nat → Int
  | 0, _ => 0
  | m + 1, v => if sp_fit lw ρ n m = true ∧ sp_gv lw ρ m p (-1) n = ((v : Nat) : Int) then alN lw ρ n p m v + 1 else alN lw ρ n p m v
def moN (lw : List sp_C) (ρ : Nat → Int) (n p : Nat) : Nat → Int
  | 0 => 0
  | m + 1 => if sp_fit lw ρ n m = true then max (moN lw ρ n p m) (alN lw ρ n p (m + 1) (sp_gv lw ρ m p (-1) n).toNat) else moN lw ρ n p m
theorem alN_b (lw : List sp_C) (ρ : Nat → Int) (n p : Nat) : ∀ m v, 0 ≤ alN lw ρ n p m v ∧ alN lw ρ n p m v ≤ m := by
  intro m
  induction m with
  | zero => intro v; simp [alN]
  | succ m ih => intro v; have := ih v; simp only [alN]; split <;> omega
theorem moN_b (lw : List sp_C) (ρ : Nat → Int) (n p : Nat) : ∀ m, 0 ≤ moN lw ρ n p m ∧ moN lw ρ n p m ≤ m := by
  intro m
  induction m with
  | zero => simp [moN]
  | succ m ih => have := alN_b lw ρ n p (m + 1) (sp_gv lw ρ m p (-1) n).toNat; simp only [moN]; split <;> omega
def lkF (lw : List sp_C) (ρ : Nat → Int) (n : Nat) : Nat → Int × Int
  | 0 => (-1, 100000000)
  | p + 1 => if 0 < moN lw ρ n p (2 ^ n) ∧ moN lw ρ n p (2 ^ n) < (lkF lw ρ n p).2 then (((p : Nat) : Int), moN lw ρ n p (2 ^ n)) else lkF lw ρ n p
theorem lkF_b (lw : List sp_C) (ρ : Nat → Int) (n : Nat) (hn : n ≤ 8) : ∀ p, -1 ≤ (lkF lw ρ n p).1 ∧ (lkF lw ρ n p).1 ≤ p ∧ 0 ≤ (lkF lw ρ n p).2 ∧ (lkF lw ρ n p).2 ≤ 100000000 := by
  intro p
  have h2 := p2_b hn
  induction p with
  | zero => simp [lkF]
  | succ p ih =>
    have := moN_b lw ρ n p (2 ^ n)
    simp only [lkF]
    split
    · dsimp only; omega
    · omega
def sp_lok (lw : List sp_C) (ρ : Nat → Int) (u : Int) : Int := if 0 ≤ u ∧ u ≤ 1 then (if (lkF lw ρ (ρ 0).toNat 16).1 = -1 ∨ u = 0 then (lkF lw ρ (ρ 0).toNat 16).1 else (lkF lw ρ (ρ 0).toNat 16).2) else -1
theorem lp_R_mostAlike_26 {xs : Nat → Int} {L d : Nat} {sh : List (Nat × Nat)} (hd : 3 ≤ d) (hW : px_W0 <+: sh) {M0 : Nat → Nat → Int}  (hρ : sp_ok (rr_ M0)) {lw : List sp_C} {n : Nat} (hn : rr_ M0 0 = ((n : Nat) : Int)) (hn8 : n ≤ 8) (hall : ∀ j, j < 16 * n → M0 253 j = sp_stain lw (rr_ M0) (j / 16) (j % 16)) {p : Nat} (hp : p < 16)  {Q : Option Value → px_H → Prop} (kx : ∀ (mo : Int) (s : Nat) (v4 : Value) (M : Nat → Nat → Int), px_qk sh [254] M0 M → (mo = moN lw (rr_ M0) n p (2 ^ n)) → px_R xs L d 275 (95, [.ref 228, .int (iI (((p : Nat) : Int))), .int (iI (mo)), .int (iI (((s : Nat) : Int))), v4], [], (sh, M)) Q)  : ∀ (mz : Nat) (mo : Int) (s : Nat) (v4 : Value) (M : Nat → Nat → Int), 2 ^ n - s = mz → px_qk sh [254] M0 M → (s ≤ 2 ^ n) → (∀ j, j < 161 → M 254 j = alN lw (rr_ M0) n p s j) → (mo = moN lw (rr_ M0) n p s) → px_R xs L d 275 (26, [.ref 228, .int (iI (((p : Nat) : Int))), .int (iI (mo)), .int (iI (((s : Nat) : Int))), v4], [], (sh, M)) Q := by
  intro mz
  induction mz using Nat.strongRecOn with
  | _ mz ih =>
    intro mo s v4 M hm hq hs hal hmo
    have h2n := p2_b hn8
    have hmb := moN_b lw (rr_ M0) n p s
    have hgb := gv_b lw (rr_ M0) s p (-1) n
    have hab := alN_b lw (rr_ M0) n p s (sp_gv lw (rr_ M0) s p (-1) n).toNat
    refine rr_iload_n pf_275_26 rfl ?_
    refine rr_iconst pf_275_27 ?_
    refine rr_aload_n pf_275_28 rfl ?_
    refine rr_getR pf_275_29 po_275 pg_9_13 rfl (ws_228 hW) (by decide) (wr_228_3 hq.1) ?_
    refine rr_iconst pf_275_32 ?_
    refine vr_iald (j := 0) hq pf_275_33 (ws_230 hW) (by omega) (by omega) (by decide) (fun x1 hx1 rx1 => ?_)
    rw [hq.2.2 230 (by decide)] at hx1
    rw [rr_at (M := M0) (i := 0) (by omega), hn] at hx1
    refine rr_ishl (((2 ^ n : Nat) : Int)) pf_275_34 (by rw [hx1]; exact iI_shl1 n (by omega)) ?_
    refine rr_icmp_ge 95 pf_275_35 (by decide) (by unfold rg; omega) (by unfold rg; omega) (fun c2 => ?_) (fun c2 => ?_)
    · exact kx mo s _ M hq (by rw [hmo, show s = 2 ^ n by omega])
    · refine rr_aload_n pf_275_38 rfl ?_
      refine rr_iload_n pf_275_39 rfl ?_
      obtain ⟨M3, kq4, hcM3⟩ := ct_R_canBe (xs := xs) (L := L) (d := d) (s := s) (lw := lw) (n := n) (by omega) hW hq.1 hq.2.1 (by rw [rr_q hq (by decide)]; exact hρ) (by rw [rr_q hq (by decide)]; exact hn) hn8 (by intro j hj; rw [hq.2.2 253 (by decide), rr_q hq (by decide)]; exact hall j hj) (by omega)
      rw [rr_q hq (by decide)] at hcM3
      obtain rfl := qk_nil kq4
      refine rr_cV1 pf_275_40 po_275 pc_9_527 (ws_228 hW) po_271 (by decide) rfl hcM3 ?_
      refine rr_ifb_eq 89 pf_275_43 (by decide) (fun c6 => ?_) (fun c6 => ?_)
      · have hft := c6
        refine rr_iinc pf_275_89 rfl (fun y => [.ref 228, .int (iI (((p : Nat) : Int))), .int (iI (mo)), .int (iI (y)), v4]) (fun _ => rfl) (fun y7 hy7 => ?_)
        refine rr_goto 26 pf_275_92 (by decide) ?_
        obtain ⟨n8, hn8, rfl⟩ : ∃ zz : Nat, zz = 1 + s ∧ y7 = ((zz : Nat) : Int) := ⟨1 + s, rfl, by omega⟩
        exact ih _ (by omega) mo n8 _ M rfl hq (by omega) (by intro j hj; rw [show n8 = s + 1 by omega, alN, if_neg (fun z => hft z.1)]; exact hal j hj) (by rw [show n8 = s + 1 by omega, moN, if_neg hft]; exact hmo)
      · have hft := c6
        refine rr_aload_n pf_275_46 rfl ?_
        refine rr_iload_n pf_275_47 rfl ?_
        refine rr_iload_n pf_275_48 rfl ?_
        refine rr_iconst pf_275_49 ?_
        obtain ⟨r11, M9, ⟨kq10, pv_M9⟩, hcM9⟩ := ct_R_givenBy (xs := xs) (L := L) (d := d) (s := s) (p := p) (h := (-1)) (lw := lw) (n := n) (by omega) hW hq.1 hq.2.1 (by rw [rr_q hq (by decide)]; exact hρ) (by rw [rr_q hq (by decide)]; exact hn) hn8 (by intro j hj; rw [hq.2.2 253 (by decide), rr_q hq (by decide)]; exact hall j hj) (by omega) (by omega) (by unfold rg; omega)
        obtain rfl := qk_nil kq10
        rw [rr_q hq (by decide)] at pv_M9
        refine rr_cV3 pf_275_50 po_275 pc_9_521 (ws_228 hW) po_272 (by decide) rfl hcM9 ?_
        refine rr_istore pf_275_53 (fun y => [.ref 228, .int (iI (((p : Nat) : Int))), .int (iI (mo)), .int (iI (((s : Nat) : Int))), .int (iI (y))]) (Nat.le_of_ble_eq_true rfl) (fun _ => rfl) (fun y12 hy12 => ?_)
        refine rr_aload_n pf_275_55 rfl ?_
        refine rr_getR pf_275_56 po_275 pg_9_131 rfl (ws_228 hW) (by decide) (wr_228_46 hq.1) ?_
        refine rr_iload pf_275_59 rfl ?_
        refine rr_dup2 pf_275_61 rfl rfl ?_
        refine vr_iald (j := (sp_gv lw (rr_ M0) s p (-1) n).toNat) hq pf_275_62 (ws_254 hW) (by omega) (by omega) (by decide) (fun x13 hx13 rx13 => ?_)
        rw [hal _ (by omega)] at hx13
        refine rr_iconst pf_275_63 ?_
        refine rr_iadd pf_275_64 ?_
        refine vr_iast (j := (sp_gv lw (rr_ M0) s p (-1) n).toNat) hW hq pf_275_65 (ws_254 hW) (by omega) (by omega) (by decide) (by unfold rg; omega) (by decide) (fun M14 eM14 q15 => ?_)
        refine rr_aload_n pf_275_66 rfl ?_
        refine rr_getR pf_275_67 po_275 pg_9_131 rfl (ws_228 hW) (by decide) (wr_228_46 q15.1) ?_
        refine rr_iload pf_275_70 rfl ?_
        refine vr_iald (j := (sp_gv lw (rr_ M0) s p (-1) n).toNat) q15 pf_275_72 (ws_254 hW) (by omega) (by omega) (by decide) (fun x16 hx16 rx16 => ?_)
        rw [eM14, up_s] at hx16
        refine rr_iload_n pf_275_73 rfl ?_
        refine rr_icmp_le 87 pf_275_74 (by decide) rx16 (by unfold rg; omega) (fun c17 => ?_) (fun c17 => ?_)
        · refine rr_iload_n pf_275_87 rfl ?_
          refine rr_istore_n pf_275_88 (fun y => [.ref 228, .int (iI (((p : Nat) : Int))), .int (iI (y)), .int (iI (((s : Nat) : Int))), .int (iI (y12))]) (Nat.le_of_ble_eq_true rfl) (fun _ => rfl) (fun y18 hy18 => ?_)
          refine rr_iinc pf_275_89 rfl (fun y => [.ref 228, .int (iI (((p : Nat) : Int))), .int (iI (y18)), .int (iI (y)), .int (iI (y12))]) (fun _ => rfl) (fun y19 hy19 => ?_)
          refine rr_goto 26 pf_275_92 (by decide) ?_
          obtain ⟨n20, hn20, rfl⟩ : ∃ zz : Nat, zz = 1 + s ∧ y19 = ((zz : Nat) : Int) := ⟨1 + s, rfl, by omega⟩
          exact ih _ (by omega) y18 n20 _ M14 rfl q15 (by omega) (by
                          intro j hj; rw [eM14, ask_up, show n20 = s + 1 by omega, alN]; by_cases hc : j = (sp_gv lw (rr_ M0) s p (-1) n).toNat
                          · rw [if_pos hc, if_pos ⟨hft, by omega⟩, hc]; omega
                          · rw [if_neg hc, if_neg (fun z => by have := z.2; omega)]; exact hal j hj) (by rw [show n20 = s + 1 by omega, moN, if_pos hft, alN, if_pos ⟨hft, by omega⟩]; omega)
        · refine rr_aload_n pf_275_77 rfl ?_
          refine rr_getR pf_275_78 po_275 pg_9_131 rfl (ws_228 hW) (by decide) (wr_228_46 q15.1) ?_
          refine rr_iload pf_275_81 rfl ?_
          refine vr_iald (j := (sp_gv lw (rr_ M0) s p (-1) n).toNat) q15 pf_275_83 (ws_254 hW) (by omega) (by omega) (by decide) (fun x21 hx21 rx21 => ?_)
          rw [eM14, up_s] at hx21
          refine rr_goto 88 pf_275_84 (by decide) ?_
          refine rr_istore_n pf_275_88 (fun y => [.ref 228, .int (iI (((p : Nat) : Int))), .int (iI (y)), .int (iI (((s : Nat) : Int))), .int (iI (y12))]) (Nat.le_of_ble_eq_true rfl) (fun _ => rfl) (fun y22 hy22 => ?_)
          have ry22 : rg y22 := hy22 ▸ rx21
          refine rr_iinc pf_275_89 rfl (fun y => [.ref 228, .int (iI (((p : Nat) : Int))), .int (iI (y22)), .int (iI (y)), .int (iI (y12))]) (fun _ => rfl) (fun y23 hy23 => ?_)
          refine rr_goto 26 pf_275_92 (by decide) ?_
          obtain ⟨n24, hn24, rfl⟩ : ∃ zz : Nat, zz = 1 + s ∧ y23 = ((zz : Nat) : Int) := ⟨1 + s, rfl, by omega⟩
          exact ih _ (by omega) y22 n24 _ M14 rfl q15 (by omega) (by
                          intro j hj; rw [eM14, ask_up, show n24 = s + 1 by omega, alN]; by_cases hc : j = (sp_gv lw (rr_ M0) s p (-1) n).toNat
                          · rw [if_pos hc, if_pos ⟨hft, by omega⟩, hc]; omega
                          · rw [if_neg hc, if_neg (fun z => by have := z.2; omega)]; exact hal j hj) (by rw [show n24 = s + 1 by omega, moN, if_pos hft, alN, if_pos ⟨hft, by omega⟩]; omega)
theorem lp_R_mostAlike_2 {xs : Nat → Int} {L d : Nat} {sh : List (Nat × Nat)} (hd : 3 ≤ d) (hW : px_W0 <+: sh) {M0 : Nat → Nat → Int}  (hρ : sp_ok (rr_ M0)) {lw : List sp_C} {n : Nat} (hn : rr_ M0 0 = ((n : Nat) : Int)) (hn8 : n ≤ 8) (hall : ∀ j, j < 16 * n → M0 253 j = sp_stain lw (rr_ M0) (j / 16) (j % 16)) {p : Nat} (hp : p < 16)  {Q : Option Value → px_H → Prop} (kx : ∀ (v : Nat) (v3 : Value) (v4 : Value) (M : Nat → Nat → Int), px_qk sh [254] M0 M → (∀ j, j < 161 → M 254 j = 0) → px_R xs L d 275 (22, [.ref 228, .int (iI (((p : Nat) : Int))), .int (iI (((v : Nat) : Int))), v3, v4], [], (sh, M)) Q)  : ∀ (mz : Nat) (v : Nat) (v3 : Value) (v4 : Value) (M : Nat → Nat → Int), 161 - v = mz → px_qk sh [254] M0 M → (v ≤ 161) → (∀ j, j < v → M 254 j = 0) → px_R xs L d 275 (2, [.ref 228, .int (iI (((p : Nat) : Int))), .int (iI (((v : Nat) : Int))), v3, v4], [], (sh, M)) Q := by
  intro mz
  induction mz using Nat.strongRecOn with
  | _ mz ih =>
    intro v v3 v4 M hm hq hv hz
    refine rr_iload_n pf_275_2 rfl ?_
    refine rr_sipush pf_275_3 (by decide) ?_
    refine rr_icmp_ge 22 pf_275_6 (by decide) (by unfold rg; omega) (by unfold rg; omega) (fun c1 => ?_) (fun c1 => ?_)
    · exact kx v _ _ M hq (by intro j hj; exact hz j (by omega))
    · refine rr_aload_n pf_275_9 rfl ?_
      refine rr_getR pf_275_10 po_275 pg_9_131 rfl (ws_228 hW) (by decide) (wr_228_46 hq.1) ?_
      refine rr_iload_n pf_275_13 rfl ?_
      refine rr_iconst pf_275_14 ?_
      refine vr_iast (j := v) hW hq pf_275_15 (ws_254 hW) (by omega) (by omega) (by decide) (by unfold rg; omega) (by decide) (fun M2 eM2 q3 => ?_)
      refine rr_iinc pf_275_16 rfl (fun y => [.ref 228, .int (iI (((p : Nat) : Int))), .int (iI (y)), v3, v4]) (fun _ => rfl) (fun y4 hy4 => ?_)
      refine rr_goto 2 pf_275_19 (by decide) ?_
      obtain ⟨n5, hn5, rfl⟩ : ∃ zz : Nat, zz = 1 + v ∧ y4 = ((zz : Nat) : Int) := ⟨1 + v, rfl, by omega⟩
      exact ih _ (by omega) n5 _ _ M2 rfl q3 (by omega) (by
                  intro j hj; rw [eM2, ask_up]; split
                  · rfl
                  · exact hz j (by omega))
theorem ct_R_mostAlike {xs : Nat → Int} {L d : Nat} {sh : List (Nat × Nat)} {M0 : Nat → Nat → Int} (hd : 4 ≤ d) (hW : px_W0 <+: sh) (hF : px_Fx M0) (hG : px_RG sh M0)  (hρ : sp_ok (rr_ M0)) {lw : List sp_C} {n : Nat} (hn : rr_ M0 0 = ((n : Nat) : Int)) (hn8 : n ≤ 8) (hall : ∀ j, j < 16 * n → M0 253 j = sp_stain lw (rr_ M0) (j / 16) (j % 16)) {p : Nat} (hp : p < 16) : ∃ v M, (px_qk sh [254] M0 M ∧ (v = moN lw (rr_ M0) n p (2 ^ n))) ∧ px_Cl xs L d 275 [.ref 228, .int (iI (((p : Nat) : Int)))] (sh, M0) (some (.int (iI v))) (sh, M) := by
  obtain ⟨d, rfl⟩ : ∃ e, d = e + 1 := ⟨d - 1, by omega⟩
  have q0 : px_qk sh [254] M0 M0 := ⟨hF, hG, eo_rf⟩
  have h2n := p2_b hn8
  refine vc_i (Nat.le_of_ble_eq_true rfl) ?_
  show px_R xs L d 275 (0, [.ref 228, .int (iI (((p : Nat) : Int))), px_jk, px_jk, px_jk], [], (sh, M0)) (fun r h' => ∃ v M', r = some (.int (iI v)) ∧ h' = (sh, M') ∧ px_qk sh [254] M0 M' ∧ v = moN lw (rr_ M0) n p (2 ^ n))
  refine rr_iconst pf_275_0 ?_
  refine rr_istore_n pf_275_1 (fun y => [.ref 228, .int (iI (((p : Nat) : Int))), .int (iI (y)), px_jk, px_jk]) (Nat.le_of_ble_eq_true rfl) (fun _ => rfl) (fun y1 hy1 => ?_)
  obtain ⟨n2, hn2, rfl⟩ : ∃ zz : Nat, zz = 0 ∧ y1 = ((zz : Nat) : Int) := ⟨0, rfl, by omega⟩
  refine lp_R_mostAlike_2 (xs := xs) (L := L) (d := d) (by omega) hW hρ hn hn8 hall hp (fun v_3 v6 v7 M4 q5 xz_M4 => ?_) _ n2 _ _ M0 rfl q0 (by omega) (by intro j hj; exfalso; omega)
  refine rr_iconst pf_275_22 ?_
  refine rr_istore_n pf_275_23 (fun y => [.ref 228, .int (iI (((p : Nat) : Int))), .int (iI (y)), v6, v7]) (Nat.le_of_ble_eq_true rfl) (fun _ => rfl) (fun y8 hy8 => ?_)
  refine rr_iconst pf_275_24 ?_
  refine rr_istore_n pf_275_25 (fun y => [.ref 228, .int (iI (((p : Nat) : Int))), .int (iI (y8)), .int (iI (y)), v7]) (Nat.le_of_ble_eq_true rfl) (fun _ => rfl) (fun y9 hy9 => ?_)
  obtain ⟨n10, hn10, rfl⟩ : ∃ zz : Nat, zz = 0 ∧ y9 = ((zz : Nat) : Int) := ⟨0, rfl, by omega⟩
  refine lp_R_mostAlike_26 (xs := xs) (L := L) (d := d) (by omega) hW hρ hn hn8 hall hp (fun mo_11 s_12 v15 M13 q14 xmo_M13 => ?_) _ y8 n10 _ M4 rfl q5 (by omega) (by intro j hj; rw [show n10 = 0 by omega]; exact xz_M4 j hj) (by rw [show n10 = 0 by omega]; exact hy8)
  refine rr_iload_n pf_275_95 rfl ?_
  refine rr_iret pf_275_96 pt_275 ⟨_, M13, rfl, rfl, q14, (xmo_M13)⟩
theorem lp_R_look1_30 {xs : Nat → Int} {L d : Nat} {sh : List (Nat × Nat)} (hd : 9 ≤ d) (hW : px_W0 <+: sh) {M0 : Nat → Nat → Int}  (hρ : sp_ok (rr_ M0)) {lw : List sp_C} {n : Nat} (hn : rr_ M0 0 = ((n : Nat) : Int)) (hn8 : n ≤ 8) {u : Int}  {Q : Option Value → px_H → Prop} (kx : ∀ (le : Int) (its : Int) (p : Nat) (v5 : Value) (M : Nat → Nat → Int), px_qk sh [228, 246, 248, 253, 254] M0 M → (rz [] M0 M) → ((its, le) = lkF lw (rr_ M0) n 16) → px_R xs L d 274 (87, [.ref 228, .int (iI (u)), .int (iI (le)), .int (iI (its)), .int (iI (((p : Nat) : Int))), v5], [], (sh, M)) Q)  : ∀ (mz : Nat) (le : Int) (its : Int) (p : Nat) (v5 : Value) (M : Nat → Nat → Int), 16 - p = mz → px_qk sh [228, 246, 248, 253, 254] M0 M → (rz [] M0 M) → (∀ j, j < 16 * n → M 253 j = sp_stain lw (rr_ M0) (j / 16) (j % 16)) → (p ≤ 16) → ((its, le) = lkF lw (rr_ M0) n p) → px_R xs L d 274 (30, [.ref 228, .int (iI (u)), .int (iI (le)), .int (iI (its)), .int (iI (((p : Nat) : Int))), v5], [], (sh, M)) Q := by
  intro mz
  induction mz using Nat.strongRecOn with
  | _ mz ih =>
    intro le its p v5 M hm hq hrq hAL hp hF
    have h2n := p2_b hn8
    have hFb := lkF_b lw (rr_ M0) n hn8 p
    refine rr_iload pf_274_30 rfl ?_
    refine rr_bipush pf_274_32 (by decide) ?_
    refine rr_icmp_ge 87 pf_274_34 (by decide) (by unfold rg; omega) (by unfold rg; omega) (fun c1 => ?_) (fun c1 => ?_)
    · exact kx le its p _ M hq (hrq) (by rw [hF, show p = 16 by omega])
    · rw [← hF] at hFb
      dsimp only at hFb
      refine rr_aload_n pf_274_37 rfl ?_
      refine rr_iload pf_274_38 rfl ?_
      obtain ⟨r4, M2, ⟨kq3, pv_M2⟩, hcM2⟩ := ct_R_mostAlike (xs := xs) (L := L) (d := d) (p := p) (lw := lw) (n := n) (by omega) hW hq.1 hq.2.1 (by rw [rr_q hq (by decide)]; exact hρ) (by rw [rr_q hq (by decide)]; exact hn) hn8 (by rw [rr_q hq (by decide)]; exact hAL) (by omega)
      have q3 := qk_trm hq kq3 (by decide)
      rw [rr_q hq (by decide)] at pv_M2
      have rq5 := rz_q hrq kq3 (by decide)
      refine rr_cV1 pf_274_40 po_274 pc_9_530 (ws_228 hW) po_275 (by decide) rfl hcM2 ?_
      have hmb := moN_b lw (rr_ M0) n p (2 ^ n)
      refine rr_istore pf_274_43 (fun y => [.ref 228, .int (iI (u)), .int (iI (le)), .int (iI (its)), .int (iI (((p : Nat) : Int))), .int (iI (y))]) (Nat.le_of_ble_eq_true rfl) (fun _ => rfl) (fun y6 hy6 => ?_)
      refine rr_iload pf_274_45 rfl ?_
      refine rr_if_le 61 pf_274_47 (by decide) (by unfold rg; omega) (fun c7 => ?_) (fun c7 => ?_)
      · refine rr_iload_n pf_274_61 rfl ?_
        refine rr_istore_n pf_274_62 (fun y => [.ref 228, .int (iI (u)), .int (iI (le)), .int (iI (y)), .int (iI (((p : Nat) : Int))), .int (iI (y6))]) (Nat.le_of_ble_eq_true rfl) (fun _ => rfl) (fun y8 hy8 => ?_)
        refine rr_iload pf_274_63 rfl ?_
        refine rr_if_le 79 pf_274_65 (by decide) (by unfold rg; omega) (fun c9 => ?_) (fun c9 => ?_)
        · refine rr_iload_n pf_274_79 rfl ?_
          refine rr_istore_n pf_274_80 (fun y => [.ref 228, .int (iI (u)), .int (iI (y)), .int (iI (y8)), .int (iI (((p : Nat) : Int))), .int (iI (y6))]) (Nat.le_of_ble_eq_true rfl) (fun _ => rfl) (fun y10 hy10 => ?_)
          refine rr_iinc pf_274_81 rfl (fun y => [.ref 228, .int (iI (u)), .int (iI (y10)), .int (iI (y8)), .int (iI (y)), .int (iI (y6))]) (fun _ => rfl) (fun y11 hy11 => ?_)
          refine rr_goto 30 pf_274_84 (by decide) ?_
          obtain ⟨n12, hn12, rfl⟩ : ∃ zz : Nat, zz = 1 + p ∧ y11 = ((zz : Nat) : Int) := ⟨1 + p, rfl, by omega⟩
          exact ih _ (by omega) y10 y8 n12 _ M2 rfl q3 (rq5) (by intro j hj; rw [kq3.2.2 253 (by decide)]; exact hAL j hj) (by omega) (by rw [show n12 = p + 1 by omega, lkF, ← hF]; dsimp only; rw [if_neg (by omega)]; congr 1)
        · exfalso; omega
      · refine rr_iload pf_274_50 rfl ?_
        refine rr_iload_n pf_274_52 rfl ?_
        refine rr_icmp_ge 61 pf_274_53 (by decide) (by unfold rg; omega) (by unfold rg; omega) (fun c13 => ?_) (fun c13 => ?_)
        · refine rr_iload_n pf_274_61 rfl ?_
          refine rr_istore_n pf_274_62 (fun y => [.ref 228, .int (iI (u)), .int (iI (le)), .int (iI (y)), .int (iI (((p : Nat) : Int))), .int (iI (y6))]) (Nat.le_of_ble_eq_true rfl) (fun _ => rfl) (fun y14 hy14 => ?_)
          refine rr_iload pf_274_63 rfl ?_
          refine rr_if_le 79 pf_274_65 (by decide) (by unfold rg; omega) (fun c15 => ?_) (fun c15 => ?_)
          · exfalso; omega
          · refine rr_iload pf_274_68 rfl ?_
            refine rr_iload_n pf_274_70 rfl ?_
            refine rr_icmp_ge 79 pf_274_71 (by decide) (by unfold rg; omega) (by unfold rg; omega) (fun c16 => ?_) (fun c16 => ?_)
            · refine rr_iload_n pf_274_79 rfl ?_
              refine rr_istore_n pf_274_80 (fun y => [.ref 228, .int (iI (u)), .int (iI (y)), .int (iI (y14)), .int (iI (((p : Nat) : Int))), .int (iI (y6))]) (Nat.le_of_ble_eq_true rfl) (fun _ => rfl) (fun y17 hy17 => ?_)
              refine rr_iinc pf_274_81 rfl (fun y => [.ref 228, .int (iI (u)), .int (iI (y17)), .int (iI (y14)), .int (iI (y)), .int (iI (y6))]) (fun _ => rfl) (fun y18 hy18 => ?_)
              refine rr_goto 30 pf_274_84 (by decide) ?_
              obtain ⟨n19, hn19, rfl⟩ : ∃ zz : Nat, zz = 1 + p ∧ y18 = ((zz : Nat) : Int) := ⟨1 + p, rfl, by omega⟩
              exact ih _ (by omega) y17 y14 n19 _ M2 rfl q3 (rq5) (by intro j hj; rw [kq3.2.2 253 (by decide)]; exact hAL j hj) (by omega) (by rw [show n19 = p + 1 by omega, lkF, ← hF]; dsimp only; rw [if_neg (by omega)]; congr 1)
            · exfalso; omega
        · refine rr_iload pf_274_56 rfl ?_
          refine rr_goto 62 pf_274_58 (by decide) ?_
          refine rr_istore_n pf_274_62 (fun y => [.ref 228, .int (iI (u)), .int (iI (le)), .int (iI (y)), .int (iI (((p : Nat) : Int))), .int (iI (y6))]) (Nat.le_of_ble_eq_true rfl) (fun _ => rfl) (fun y20 hy20 => ?_)
          refine rr_iload pf_274_63 rfl ?_
          refine rr_if_le 79 pf_274_65 (by decide) (by unfold rg; omega) (fun c21 => ?_) (fun c21 => ?_)
          · exfalso; omega
          · refine rr_iload pf_274_68 rfl ?_
            refine rr_iload_n pf_274_70 rfl ?_
            refine rr_icmp_ge 79 pf_274_71 (by decide) (by unfold rg; omega) (by unfold rg; omega) (fun c22 => ?_) (fun c22 => ?_)
            · exfalso; omega
            · refine rr_iload pf_274_74 rfl ?_
              refine rr_goto 80 pf_274_76 (by decide) ?_
              refine rr_istore_n pf_274_80 (fun y => [.ref 228, .int (iI (u)), .int (iI (y)), .int (iI (y20)), .int (iI (((p : Nat) : Int))), .int (iI (y6))]) (Nat.le_of_ble_eq_true rfl) (fun _ => rfl) (fun y23 hy23 => ?_)
              refine rr_iinc pf_274_81 rfl (fun y => [.ref 228, .int (iI (u)), .int (iI (y23)), .int (iI (y20)), .int (iI (y)), .int (iI (y6))]) (fun _ => rfl) (fun y24 hy24 => ?_)
              refine rr_goto 30 pf_274_84 (by decide) ?_
              obtain ⟨n25, hn25, rfl⟩ : ∃ zz : Nat, zz = 1 + p ∧ y24 = ((zz : Nat) : Int) := ⟨1 + p, rfl, by omega⟩
              exact ih _ (by omega) y23 y20 n25 _ M2 rfl q3 (rq5) (by intro j hj; rw [kq3.2.2 253 (by decide)]; exact hAL j hj) (by omega) (by rw [show n25 = p + 1 by omega, lkF, ← hF]; dsimp only; rw [if_pos (by omega)]; congr 1; omega)
theorem ct_R_look1 {xs : Nat → Int} {L d : Nat} {sh : List (Nat × Nat)} {M0 : Nat → Nat → Int} (hd : 10 ≤ d) (hW : px_W0 <+: sh) (hF : px_Fx M0) (hG : px_RG sh M0)  (hρ : sp_ok (rr_ M0)) {lw : List sp_C} (hlw : px_lwR M0 lw) (hord : M0 228 20 = 0) {n : Nat} (hn : rr_ M0 0 = ((n : Nat) : Int)) (hn8 : n ≤ 8) {u : Int} (hu0 : 0 ≤ u ∧ u ≤ 1) : ∃ v M, (px_qk sh [228, 246, 248, 253, 254] M0 M ∧ (v = sp_lok lw (rr_ M0) u) ∧ (rz [] M0 M)) ∧ px_Cl xs L d 274 [.ref 228, .int (iI (u))] (sh, M0) (some (.int (iI v))) (sh, M) := by
  obtain ⟨d, rfl⟩ : ∃ e, d = e + 1 := ⟨d - 1, by omega⟩
  have q0 : px_qk sh [228, 246, 248, 253, 254] M0 M0 := ⟨hF, hG, eo_rf⟩
  refine vc_i (Nat.le_of_ble_eq_true rfl) ?_
  show px_R xs L d 274 (0, [.ref 228, .int (iI (u)), px_jk, px_jk, px_jk, px_jk], [], (sh, M0)) (fun r h' => ∃ v M', r = some (.int (iI v)) ∧ h' = (sh, M') ∧ px_qk sh [228, 246, 248, 253, 254] M0 M' ∧ v = sp_lok lw (rr_ M0) u ∧ rz [] M0 M')
  refine rr_aload_n pf_274_0 rfl ?_
  refine rr_iconst pf_274_1 ?_
  refine vr_putI hW q0 pf_274_2 po_274 pg_9_177 (Or.inl rfl) rfl (ws_228 hW) (by decide) (by unfold rg; omega) (by decide) (fun M1 eM1 q2 => ?_)
  have rq3 := rz_up (rz_rf [] M0) eM1 (by decide)
  refine rr_iload_n pf_274_5 rfl ?_
  refine rr_i2l pf_274_6 (by unfold rg; omega) ?_
  refine rr_lconst (w := 0) pf_274_7 rfl ?_
  refine rr_lconst (w := 1) pf_274_8 rfl ?_
  refine rr_cS3 pf_274_9 po_274 pc_9_197 (by decide) rfl (ct_R_in (by omega) (by unfold rl; omega) (by unfold rl; omega) (by unfold rl; omega)) ?_
  refine rr_ifb_ne 17 pf_274_12 (by decide) (fun c4 => ?_) (fun c4 => ?_)
  · refine rr_aload_n pf_274_17 rfl ?_
    obtain ⟨M5, ⟨kq6, pa_M5, pf_M5⟩, hcM5⟩ := ct_R_layAll (xs := xs) (L := L) (d := d) (lw := lw) (n := n) (by omega) hW q2.1 q2.2.1 (by rw [rr_q q2 (by decide)]; exact hρ) (lwR_q q2 (by decide) hlw) ((rq3 20 (by decide) (by decide)).trans hord) (by rw [rr_q q2 (by decide)]; exact hn) hn8
    have q6 := qk_trm q2 kq6 (by decide)
    rw [rr_q q2 (by decide)] at pa_M5
    have rq8 := rz_rq rq3 pf_M5
    refine rr_cV0 pf_274_18 po_274 pc_9_524 (ws_228 hW) po_270 (by decide) rfl hcM5 ?_
    
    refine rr_ldc_w pf_274_21 po_274 pk_9_502 ?_
    refine rr_istore_n pf_274_24 (fun y => [.ref 228, .int (iI (u)), .int (iI (y)), px_jk, px_jk, px_jk]) (Nat.le_of_ble_eq_true rfl) (fun _ => rfl) (fun y9 hy9 => ?_)
    refine rr_iconst pf_274_25 ?_
    refine rr_istore_n pf_274_26 (fun y => [.ref 228, .int (iI (u)), .int (iI (y9)), .int (iI (y)), px_jk, px_jk]) (Nat.le_of_ble_eq_true rfl) (fun _ => rfl) (fun y10 hy10 => ?_)
    refine rr_iconst pf_274_27 ?_
    refine rr_istore pf_274_28 (fun y => [.ref 228, .int (iI (u)), .int (iI (y9)), .int (iI (y10)), .int (iI (y)), px_jk]) (Nat.le_of_ble_eq_true rfl) (fun _ => rfl) (fun y11 hy11 => ?_)
    obtain ⟨n12, hn12, rfl⟩ : ∃ zz : Nat, zz = 0 ∧ y11 = ((zz : Nat) : Int) := ⟨0, rfl, by omega⟩
    refine lp_R_look1_30 (xs := xs) (L := L) (d := d) (by omega) hW hρ hn hn8 (fun le_13 its_14 p_15 v18 M16 q17 xrq_M16 xF_M16 => ?_) _ y9 y10 n12 _ M5 rfl q6 (rq8) (pa_M5) (by omega) (by rw [show n12 = 0 by omega]; simp only [lkF]; congr 1)
    have hFb := lkF_b lw (rr_ M0) n hn8 16
    rw [← xF_M16] at hFb
    dsimp only at hFb
    refine rr_iload_n pf_274_87 rfl ?_
    refine rr_iconst pf_274_88 ?_
    refine rr_icmp_eq 96 pf_274_89 (by decide) (by unfold rg; omega) (by unfold rg; omega) (fun c19 => ?_) (fun c19 => ?_)
    · refine rr_iload_n pf_274_96 rfl ?_
      refine rr_goto 101 pf_274_97 (by decide) ?_
      refine rr_iret pf_274_101 pt_274 ⟨_, M16, rfl, rfl, q17, (by unfold sp_lok; rw [show (rr_ M0 0).toNat = n by omega, if_pos (by omega), ← xF_M16]; dsimp only; rw [if_pos (by omega)]), (xrq_M16)⟩
    · refine rr_iload_n pf_274_92 rfl ?_
      refine rr_if_ne 100 pf_274_93 (by decide) (by unfold rg; omega) (fun c20 => ?_) (fun c20 => ?_)
      · refine rr_iload_n pf_274_100 rfl ?_
        refine rr_iret pf_274_101 pt_274 ⟨_, M16, rfl, rfl, q17, (by unfold sp_lok; rw [show (rr_ M0 0).toNat = n by omega, if_pos (by omega), ← xF_M16]; dsimp only; rw [if_neg (by omega)]), (xrq_M16)⟩
      · refine rr_iload_n pf_274_96 rfl ?_
        refine rr_goto 101 pf_274_97 (by decide) ?_
        refine rr_iret pf_274_101 pt_274 ⟨_, M16, rfl, rfl, q17, (by unfold sp_lok; rw [show (rr_ M0 0).toNat = n by omega, if_pos (by omega), ← xF_M16]; dsimp only; rw [if_pos (by omega)]), (xrq_M16)⟩
  · exfalso; omega
theorem ct_R_look0 {xs : Nat → Int} {L d : Nat} {sh : List (Nat × Nat)} {M0 : Nat → Nat → Int} (hd : 3 ≤ d) (hW : px_W0 <+: sh) (hF : px_Fx M0) (hG : px_RG sh M0)  {u : Int} (hu0 : rg u) (hx : ¬ (0 ≤ u ∧ u ≤ 1)) : ∃ v M, (px_qk sh [228] M0 M ∧ (v = -1) ∧ (rz [] M0 M)) ∧ px_Cl xs L d 274 [.ref 228, .int (iI (u))] (sh, M0) (some (.int (iI v))) (sh, M) := by
  obtain ⟨d, rfl⟩ : ∃ e, d = e + 1 := ⟨d - 1, by omega⟩
  have q0 : px_qk sh [228] M0 M0 := ⟨hF, hG, eo_rf⟩
  refine vc_i (Nat.le_of_ble_eq_true rfl) ?_
  show px_R xs L d 274 (0, [.ref 228, .int (iI (u)), px_jk, px_jk, px_jk, px_jk], [], (sh, M0)) (fun r h' => ∃ v M', r = some (.int (iI v)) ∧ h' = (sh, M') ∧ px_qk sh [228] M0 M' ∧ v = -1 ∧ rz [] M0 M')
  refine rr_aload_n pf_274_0 rfl ?_
  refine rr_iconst pf_274_1 ?_
  refine vr_putI hW q0 pf_274_2 po_274 pg_9_177 (Or.inl rfl) rfl (ws_228 hW) (by decide) (by unfold rg; omega) (by decide) (fun M1 eM1 q2 => ?_)
  have rq3 := rz_up (rz_rf [] M0) eM1 (by decide)
  refine rr_iload_n pf_274_5 rfl ?_
  refine rr_i2l pf_274_6 hu0 ?_
  refine rr_lconst (w := 0) pf_274_7 rfl ?_
  refine rr_lconst (w := 1) pf_274_8 rfl ?_
  refine rr_cS3 pf_274_9 po_274 pc_9_197 (by decide) rfl (ct_R_in (by omega) (rl_rg hu0) (by unfold rl; omega) (by unfold rl; omega)) ?_
  refine rr_ifb_ne 17 pf_274_12 (by decide) (fun c4 => ?_) (fun c4 => ?_)
  · exfalso; omega
  · refine rr_iconst pf_274_15 ?_
    refine rr_iret pf_274_16 pt_274 ⟨_, M1, rfl, rfl, q2, (by rfl), (rq3)⟩

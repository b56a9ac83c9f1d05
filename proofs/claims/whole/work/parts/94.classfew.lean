/-! the class on paper: few -/
theorem fw_z {c : Int} : ∀ n j : Nat, n < j → fw c n j = 0 := by
  intro n
  induction n with
  | zero => intro j hj; unfold fw; rw [if_neg (by omega)]
  | succ n ih =>
    intro j hj
    obtain ⟨i, rfl⟩ : ∃ i, j = i + 1 := ⟨j - 1, by omega⟩
    simp only [fw]
    rw [ih (i + 1) (by omega), ih i (by omega)]
    simp
theorem qk_fill {sh : List (Nat × Nat)} {A : List Nat} {M0 M : Nat → Nat → Int} (hW : px_W0 <+: sh) (q : px_qk sh A M0 M) (hA : 187 ∈ A) : px_qk sh A M0 (px_cl M 187 (fun j => if j < 101 then 0 else M 187 j)) := by
  refine ⟨fx_cl hW q.1 (ws_187 hW) (by decide), ?_, ?_⟩
  · intro a kd n j hs
    have hg := q.2.1 a kd n j hs
    unfold px_cl
    by_cases ha : a = 187
    · subst ha
      rw [if_pos rfl]
      show (px_ty kd j = 1 → rl (if j < 101 then 0 else M 187 j)) ∧ (px_ty kd j ≠ 1 → rg (if j < 101 then 0 else M 187 j))
      split
      · exact ⟨fun _ => by unfold rl; omega, fun _ => by unfold rg; omega⟩
      · exact hg
    · rw [if_neg ha]; exact hg
  · intro a ha
    unfold px_cl
    funext j
    rw [if_neg (fun z => ha (by rw [z]; exact hA))]
    exact congrFun (q.2.2 a ha) j
theorem lp_Paper_chanceOfFewer_110 {xs : Nat → Int} {L d : Nat} {sh : List (Nat × Nat)} (hd : 1 ≤ d) (hW : px_W0 <+: sh) {M0 : Nat → Nat → Int}  (hρ : sp_ok (rc M0 3)) {k n : Nat} (hk2 : k ≤ 20) (hn9 : n ≤ 99)  {Q : Option Value → px_H → Prop} (kx : ∀ (all : Int) (j : Nat) (v6 : Value) (M : Nat → Nat → Int), px_qk sh [187] M0 M → (all = fwS (rc M0 3 6) n k) → (0 ≤ all ∧ all ≤ 1000000000000) → px_R xs L d 164 (132, [.ref 175, .int (iI (((k : Nat) : Int))), .int (iI (((n : Nat) : Int))), .long (lI (all)), px_jk, .int (iI (((j : Nat) : Int))), v6], [], (sh, M)) Q)  : ∀ (mz : Nat) (all : Int) (j : Nat) (v6 : Value) (M : Nat → Nat → Int), k - j = mz → px_qk sh [187] M0 M → (j ≤ k) → (∀ j, j < 101 → M 187 j = fw (rc M0 3 6) n j) → (all = fwS (rc M0 3 6) n j) → (0 ≤ all ∧ all ≤ 1000000000000) → px_R xs L d 164 (110, [.ref 175, .int (iI (((k : Nat) : Int))), .int (iI (((n : Nat) : Int))), .long (lI (all)), px_jk, .int (iI (((j : Nat) : Int))), v6], [], (sh, M)) Q := by
  intro mz
  induction mz using Nat.strongRecOn with
  | _ mz ih =>
    intro all j v6 M hm hq hj hf ha hab
    have hcm := hρ.2.2.2.2.2.2.1
    refine rr_iload pf_164_110 rfl ?_
    refine rr_iload_n pf_164_112 rfl ?_
    refine rr_icmp_ge 132 pf_164_113 (by decide) (by unfold rg; omega) (by unfold rg; omega) (fun c1 => ?_) (fun c1 => ?_)
    · exact kx all j _ M hq (by rw [ha, show j = k by omega]) (hab)
    · refine rr_lload_n pf_164_116 rfl ?_
      refine rr_aload_n pf_164_117 rfl ?_
      refine rr_getR pf_164_118 po_164 pg_2_52 rfl (ws_175 hW) (by decide) (wr_175_15 hq.1) ?_
      refine rr_iload pf_164_121 rfl ?_
      refine vr_lald (j := j) hq pf_164_123 (ws_187 hW) (by omega) (by omega) (by decide) (fun x2 hx2 rx2 => ?_)
      rw [hf j (by omega)] at hx2
      have hxb := fw_nn hcm n j
      have hxc := fw_le hcm n j
      refine rr_ladd pf_164_124 ?_
      refine rr_lstore_n pf_164_125 (fun y => [.ref 175, .int (iI (((k : Nat) : Int))), .int (iI (((n : Nat) : Int))), .long (lI (y)), px_jk, .int (iI (((j : Nat) : Int))), v6]) (Nat.le_of_ble_eq_true rfl) (fun _ => rfl) (fun y3 hy3 => ?_)
      refine rr_iinc pf_164_126 rfl (fun y => [.ref 175, .int (iI (((k : Nat) : Int))), .int (iI (((n : Nat) : Int))), .long (lI (y3)), px_jk, .int (iI (y)), v6]) (fun _ => rfl) (fun y4 hy4 => ?_)
      refine rr_goto 110 pf_164_129 (by decide) ?_
      obtain ⟨nz5, hnz5, rfl⟩ : ∃ zz : Nat, zz = 1 + j ∧ y4 = ((zz : Nat) : Int) := ⟨1 + j, rfl, by omega⟩
      exact ih _ (by omega) y3 nz5 _ M rfl hq (by omega) (hf) (by rw [show nz5 = j + 1 by omega, fwS, hy3, ha, hx2]) (by rw [hy3, ha, hx2]; exact ⟨fwS_nn hcm n (j + 1), fwS_le hcm n (j + 1)⟩)
theorem lp_Paper_chanceOfFewer_27 {xs : Nat → Int} {L d : Nat} {sh : List (Nat × Nat)} (hd : 1 ≤ d) (hW : px_W0 <+: sh) {M0 : Nat → Nat → Int}  (hρ : sp_ok (rc M0 3)) {k n : Nat} (hk2 : k ≤ 20) (hn9 : n ≤ 99) {v : Nat} (hvn : v < n) {Q : Option Value → px_H → Prop} (kx : ∀ (i : Int) (v5 : Value) (v6 : Value) (M : Nat → Nat → Int), px_qk sh [187] M0 M → (∀ j, j < 101 → M 187 j = fw (rc M0 3 6) (v + 1) j) → px_R xs L d 164 (99, [.ref 175, .int (iI (((k : Nat) : Int))), .int (iI (((n : Nat) : Int))), .int (iI (((v : Nat) : Int))), .int (iI (i)), v5, v6], [], (sh, M)) Q)  : ∀ (mz : Nat) (i : Int) (v5 : Value) (v6 : Value) (M : Nat → Nat → Int), (i + 1).toNat = mz → px_qk sh [187] M0 M → (-1 ≤ i ∧ i ≤ v) → (∀ j : Nat, j < 101 → M 187 j = if (j : Int) ≤ i then fw (rc M0 3 6) v j else if (j : Int) = i + 1 then fw (rc M0 3 6) v j * (10 - (rc M0 3 6)) / 10 else fw (rc M0 3 6) (v + 1) j) → px_R xs L d 164 (27, [.ref 175, .int (iI (((k : Nat) : Int))), .int (iI (((n : Nat) : Int))), .int (iI (((v : Nat) : Int))), .int (iI (i)), v5, v6], [], (sh, M)) Q := by
  intro mz
  induction mz using Nat.strongRecOn with
  | _ mz ih =>
    intro i v5 v6 M hm hq hi hg
    have hcm := hρ.2.2.2.2.2.2.1
    refine rr_iload pf_164_27 rfl ?_
    refine rr_if_lt 99 pf_164_29 (by decide) (by unfold rg; omega) (fun c1 => ?_) (fun c1 => ?_)
    · exact kx i _ _ M hq (by
                  intro j hj; rw [hg j hj, if_neg (by omega)]; by_cases h0 : j = 0
                  · rw [if_pos (by omega), h0]; rfl
                  · rw [if_neg (by omega)])
    · obtain ⟨q, rfl⟩ : ∃ q : Nat, i = (q : Int) := ⟨i.toNat, by omega⟩
      refine rr_aload_n pf_164_32 rfl ?_
      refine rr_getR pf_164_33 po_164 pg_2_52 rfl (ws_175 hW) (by decide) (wr_175_15 hq.1) ?_
      refine rr_iload pf_164_36 rfl ?_
      refine vr_lald (j := q) hq pf_164_38 (ws_187 hW) (by omega) (by omega) (by decide) (fun x2 hx2 rx2 => ?_)
      rw [hg q (by omega), if_pos (by omega)] at hx2
      have hXb : 0 ≤ x2 ∧ x2 ≤ 1000000000000 := by rw [hx2]; exact ⟨fw_nn hcm _ _, fw_le hcm _ _⟩
      have hX : eqI x2 (fw (rc M0 3 6) v q) := hx2
      clear hx2
      refine rr_lstore pf_164_39 (fun y => [.ref 175, .int (iI (((k : Nat) : Int))), .int (iI (((n : Nat) : Int))), .int (iI (((v : Nat) : Int))), .int (iI (((q : Nat) : Int))), .long (lI (y)), px_jk]) (Nat.le_of_ble_eq_true rfl) (fun _ => rfl) (fun y3 hy3 => ?_)
      have ry3 : rl y3 := hy3 ▸ rx2
      refine rr_aload_n pf_164_41 rfl ?_
      refine rr_getR pf_164_42 po_164 pg_2_52 rfl (ws_175 hW) (by decide) (wr_175_15 hq.1) ?_
      refine rr_iload pf_164_45 rfl ?_
      refine rr_iconst pf_164_47 ?_
      refine rr_iadd pf_164_48 ?_
      refine rr_dup2 pf_164_49 rfl rfl ?_
      refine vr_lald (j := (q + 1)) hq pf_164_50 (ws_187 hW) (by omega) (by omega) (by decide) (fun x4 hx4 rx4 => ?_)
      rw [hg (q + 1) (by omega), if_neg (by omega), if_pos (by omega)] at hx4
      have hYb : 0 ≤ x4 ∧ x4 ≤ 1000000000000 := by
        have m1 := mul10 (c := 10 - (rc M0 3 6)) ⟨fw_nn hcm v (q + 1), fw_le hcm v (q + 1)⟩ (by omega)
        rw [hx4]; omega
      have hY : eqI x4 (fw (rc M0 3 6) v (q + 1) * (10 - (rc M0 3 6)) / 10) := hx4
      clear hx4
      refine rr_lload pf_164_51 rfl ?_
      refine rr_aload_n pf_164_53 rfl ?_
      refine rr_getR pf_164_54 po_164 pg_2_65 rfl (ws_175 hW) (by decide) (wr_175_3 hq.1) ?_
      refine vr_getI hq pf_164_57 po_164 pg_2_236 rfl (ws_3 hW) (by decide) (fun x5 hx5 rx5 => ?_)
      rw [hq.2.2 3 (by decide)] at hx5
      change x5 = rc M0 3 6 at hx5
      refine rr_i2l pf_164_60 rx5 ?_
      refine rr_lmul pf_164_61 ?_
      have m1 := mul10 (a := y3) (c := x5) (by omega) (by omega)
      refine rr_ldc2_w pf_164_62 po_164 pl_2_239 ?_
      refine rr_ldivP pf_164_65 (by unfold rl; omega) (by unfold rl; omega) (by omega) (by omega) ?_
      refine rr_ladd pf_164_66 ?_
      refine vr_last (j := (q + 1)) hW hq pf_164_67 (ws_187 hW) (by omega) (by omega) (by decide) (by unfold rl; omega) (by decide) (fun M6 eM6 q7 => ?_)
      refine rr_aload_n pf_164_68 rfl ?_
      refine rr_getR pf_164_69 po_164 pg_2_52 rfl (ws_175 hW) (by decide) (wr_175_15 q7.1) ?_
      refine rr_iload pf_164_72 rfl ?_
      refine rr_lload pf_164_74 rfl ?_
      refine rr_bipush pf_164_76 (by decide) ?_
      refine rr_aload_n pf_164_78 rfl ?_
      refine rr_getR pf_164_79 po_164 pg_2_65 rfl (ws_175 hW) (by decide) (wr_175_3 q7.1) ?_
      refine vr_getI q7 pf_164_82 po_164 pg_2_236 rfl (ws_3 hW) (by decide) (fun x8 hx8 rx8 => ?_)
      rw [q7.2.2 3 (by decide)] at hx8
      change x8 = rc M0 3 6 at hx8
      refine rr_isub pf_164_85 ?_
      refine rr_i2l pf_164_86 (by unfold rg; omega) ?_
      refine rr_lmul pf_164_87 ?_
      have m2 := mul10 (a := y3) (c := 10 - x8) (by omega) (by omega)
      refine rr_ldc2_w pf_164_88 po_164 pl_2_239 ?_
      refine rr_ldivP pf_164_91 (by unfold rl; omega) (by unfold rl; omega) (by omega) (by omega) ?_
      refine vr_last (j := q) hW q7 pf_164_92 (ws_187 hW) (by omega) (by omega) (by decide) (by unfold rl; omega) (by decide) (fun M9 eM9 q10 => ?_)
      refine rr_iinc pf_164_93 rfl (fun y => [.ref 175, .int (iI (((k : Nat) : Int))), .int (iI (((n : Nat) : Int))), .int (iI (((v : Nat) : Int))), .int (iI (y)), .long (lI (y3)), px_jk]) (fun _ => rfl) (fun y11 hy11 => ?_)
      refine rr_goto 27 pf_164_96 (by decide) ?_
      exact ih _ (by omega) y11 _ _ M9 rfl q10 (by omega) (by
                  have hX2 : x2 = fw (rc M0 3 6) v q := hX
                  have hY2 : x4 = fw (rc M0 3 6) v (q + 1) * (10 - rc M0 3 6) / 10 := hY
                  intro j hj
                  rw [eM9, ask_up]
                  by_cases h2 : j = q
                  · rw [if_pos h2, if_neg (by omega), if_pos (by omega), h2, ← hX2, hy3, hx8]
                  · rw [if_neg h2, eM6, ask_up]; by_cases h1 : j = q + 1
                    · rw [if_pos h1, if_neg (by omega), if_neg (by omega), h1]
                      show _ = fw (rc M0 3 6) v (q + 1) * (10 - rc M0 3 6) / 10 + fw (rc M0 3 6) v q * rc M0 3 6 / 10
                      rw [← hX2, ← hY2, hy3, hx5]
                    · rw [if_neg h1, hg j hj]; by_cases h3 : (j : Int) ≤ (q : Int)
                      · rw [if_pos h3, if_pos (by omega)]
                      · rw [if_neg h3, if_neg (by omega), if_neg (by omega), if_neg (by omega)])
theorem lp_Paper_chanceOfFewer_19 {xs : Nat → Int} {L d : Nat} {sh : List (Nat × Nat)} (hd : 1 ≤ d) (hW : px_W0 <+: sh) {M0 : Nat → Nat → Int}  (hρ : sp_ok (rc M0 3)) {k n : Nat} (hk2 : k ≤ 20) (hn9 : n ≤ 99)  {Q : Option Value → px_H → Prop} (kx : ∀ (v : Nat) (v4 : Value) (v5 : Value) (v6 : Value) (M : Nat → Nat → Int), px_qk sh [187] M0 M → (∀ j, j < 101 → M 187 j = fw (rc M0 3 6) n j) → px_R xs L d 164 (105, [.ref 175, .int (iI (((k : Nat) : Int))), .int (iI (((n : Nat) : Int))), .int (iI (((v : Nat) : Int))), v4, v5, v6], [], (sh, M)) Q)  : ∀ (mz : Nat) (v : Nat) (v4 : Value) (v5 : Value) (v6 : Value) (M : Nat → Nat → Int), n - v = mz → px_qk sh [187] M0 M → (v ≤ n) → (∀ j, j < 101 → M 187 j = fw (rc M0 3 6) v j) → px_R xs L d 164 (19, [.ref 175, .int (iI (((k : Nat) : Int))), .int (iI (((n : Nat) : Int))), .int (iI (((v : Nat) : Int))), v4, v5, v6], [], (sh, M)) Q := by
  intro mz
  induction mz using Nat.strongRecOn with
  | _ mz ih =>
    intro v v4 v5 v6 M hm hq hv hf
    refine rr_iload_n pf_164_19 rfl ?_
    refine rr_iload_n pf_164_20 rfl ?_
    refine rr_icmp_ge 105 pf_164_21 (by decide) (by unfold rg; omega) (by unfold rg; omega) (fun c1 => ?_) (fun c1 => ?_)
    · exact kx v _ _ _ M hq (by rw [show n = v by omega]; exact hf)
    · refine rr_iload_n pf_164_24 rfl ?_
      refine rr_istore pf_164_25 (fun y => [.ref 175, .int (iI (((k : Nat) : Int))), .int (iI (((n : Nat) : Int))), .int (iI (((v : Nat) : Int))), .int (iI (y)), v5, v6]) (Nat.le_of_ble_eq_true rfl) (fun _ => rfl) (fun y2 hy2 => ?_)
      refine lp_Paper_chanceOfFewer_27 (xs := xs) (L := L) (d := d) (by omega) hW hρ hk2 hn9 (by omega) (fun i_3 v6 v7 M4 q5 xf_M4 => ?_) _ y2 _ _ M rfl hq (by omega) (by
                  intro j hj; rw [hf j hj]; by_cases h1 : (j : Int) ≤ y2
                  · rw [if_pos h1]
                  · rw [if_neg h1, fw_z v j (by omega)]; split
                    · simp
                    · rw [fw_z (v + 1) j (by omega)])
      refine rr_iinc pf_164_99 rfl (fun y => [.ref 175, .int (iI (((k : Nat) : Int))), .int (iI (((n : Nat) : Int))), .int (iI (y)), .int (iI (i_3)), v6, v7]) (fun _ => rfl) (fun y8 hy8 => ?_)
      refine rr_goto 19 pf_164_102 (by decide) ?_
      obtain ⟨nz9, hnz9, rfl⟩ : ∃ zz : Nat, zz = 1 + v ∧ y8 = ((zz : Nat) : Int) := ⟨1 + v, rfl, by omega⟩
      exact ih _ (by omega) nz9 _ _ _ M4 rfl q5 (by omega) (by rw [show nz9 = v + 1 by omega]; exact xf_M4)
theorem ct_Paper_chanceOfFewer {xs : Nat → Int} {L d : Nat} {sh : List (Nat × Nat)} {M0 : Nat → Nat → Int} (hd : 2 ≤ d) (hW : px_W0 <+: sh) (hF : px_Fx M0) (hG : px_RG sh M0)  (hρ : sp_ok (rc M0 3)) {k n : Nat} (hk2 : k ≤ 20) (hn9 : n ≤ 99) : ∃ v M, (px_qk sh [187] M0 M ∧ (v = fwS (rc M0 3 6) n k) ∧ (0 ≤ v ∧ v ≤ 1000000000000)) ∧ px_Cl xs L d 164 [.ref 175, .int (iI (((k : Nat) : Int))), .int (iI (((n : Nat) : Int)))] (sh, M0) (some (.long (lI v))) (sh, M) := by
  obtain ⟨d, rfl⟩ : ∃ e, d = e + 1 := ⟨d - 1, by omega⟩
  have q0 : px_qk sh [187] M0 M0 := ⟨hF, hG, eo_rf⟩
  refine vc_l (Nat.le_of_ble_eq_true rfl) ?_
  show px_R xs L d 164 (0, [.ref 175, .int (iI (((k : Nat) : Int))), .int (iI (((n : Nat) : Int))), px_jk, px_jk, px_jk, px_jk], [], (sh, M0)) (fun r h' => ∃ v M', r = some (.long (lI v)) ∧ h' = (sh, M') ∧ px_qk sh [187] M0 M' ∧ v = fwS (rc M0 3 6) n k ∧ (0 ≤ v ∧ v ≤ 1000000000000))
  refine rr_aload_n pf_164_0 rfl ?_
  refine rr_getR pf_164_1 po_164 pg_2_52 rfl (ws_175 hW) (by decide) (wr_175_15 q0.1) ?_
  refine rr_lconst (w := 0) pf_164_4 rfl ?_
  have hcF := ct_Arrays_fillJ (xs := xs) (L := L) (d := d) (a := 187) (n := 101) (M := M0) (v := 0) (by omega) (ws_187 hW) (by decide) (by unfold rl; omega)
  have q2 := qk_fill hW q0 (by decide)
  obtain ⟨M1, eM1⟩ : ∃ z, z = px_cl M0 187 (fun j => if j < 101 then 0 else M0 187 j) := ⟨_, rfl⟩
  rw [← eM1] at hcF q2
  have fM1 : ∀ j, j < 101 → M1 187 j = 0 := fun j hj => by rw [eM1]; unfold px_cl; rw [if_pos rfl]; exact if_pos hj
  refine rr_cS2 pf_164_5 po_164 pc_2_231 (by decide) rfl hcF ?_
  refine rr_aload_n pf_164_8 rfl ?_
  refine rr_getR pf_164_9 po_164 pg_2_52 rfl (ws_175 hW) (by decide) (wr_175_15 q2.1) ?_
  refine rr_iconst pf_164_12 ?_
  refine rr_ldc2_w pf_164_13 po_164 pl_2_234 ?_
  refine vr_last (j := 0) hW q2 pf_164_16 (ws_187 hW) (by omega) (by omega) (by decide) (by unfold rl; omega) (by decide) (fun M3 eM3 q4 => ?_)
  refine rr_iconst pf_164_17 ?_
  refine rr_istore_n pf_164_18 (fun y => [.ref 175, .int (iI (((k : Nat) : Int))), .int (iI (((n : Nat) : Int))), .int (iI (y)), px_jk, px_jk, px_jk]) (Nat.le_of_ble_eq_true rfl) (fun _ => rfl) (fun y5 hy5 => ?_)
  obtain ⟨nz6, hnz6, rfl⟩ : ∃ zz : Nat, zz = 0 ∧ y5 = ((zz : Nat) : Int) := ⟨0, rfl, by omega⟩
  refine lp_Paper_chanceOfFewer_19 (xs := xs) (L := L) (d := d) (by omega) hW hρ hk2 hn9 (fun v_7 v10 v11 v12 M8 q9 xf_M8 => ?_) _ nz6 _ _ _ M3 rfl q4 (by omega) (by
          intro j hj; rw [show nz6 = 0 by omega, eM3, ask_up]; unfold fw; by_cases h0 : j = 0
          · rw [if_pos h0, if_pos h0]
          · rw [if_neg h0, if_neg h0]; exact fM1 j hj)
  refine rr_lconst (w := 0) pf_164_105 rfl ?_
  refine rr_lstore_n pf_164_106 (fun y => [.ref 175, .int (iI (((k : Nat) : Int))), .int (iI (((n : Nat) : Int))), .long (lI (y)), px_jk, v11, v12]) (Nat.le_of_ble_eq_true rfl) (fun _ => rfl) (fun y13 hy13 => ?_)
  refine rr_iconst pf_164_107 ?_
  refine rr_istore pf_164_108 (fun y => [.ref 175, .int (iI (((k : Nat) : Int))), .int (iI (((n : Nat) : Int))), .long (lI (y13)), px_jk, .int (iI (y)), v12]) (Nat.le_of_ble_eq_true rfl) (fun _ => rfl) (fun y14 hy14 => ?_)
  obtain ⟨nz15, hnz15, rfl⟩ : ∃ zz : Nat, zz = 0 ∧ y14 = ((zz : Nat) : Int) := ⟨0, rfl, by omega⟩
  refine lp_Paper_chanceOfFewer_110 (xs := xs) (L := L) (d := d) (by omega) hW hρ hk2 hn9 (fun all_16 j_17 v20 M18 q19 xa_M18 xb_M18 => ?_) _ y13 nz15 _ M8 rfl q9 (by omega) (xf_M8) (by rw [show nz15 = 0 by omega, fwS]; omega) (by omega)
  refine rr_lload_n pf_164_132 rfl ?_
  refine rr_lret pf_164_133 pt_164 ⟨_, M18, rfl, rfl, q19, (xa_M18), (xb_M18)⟩
theorem ct_S_few {xs : Nat → Int} {L d : Nat} {sh : List (Nat × Nat)} {M0 : Nat → Nat → Int} (hd : 3 ≤ d) (hW : px_W0 <+: sh) (hF : px_Fx M0) (hG : px_RG sh M0)  (hρ : sp_ok (rc M0 3)) {k n : Int} (hk0 : rg k) (hn0 : rg n) : ∃ v M, (px_qk sh [187] M0 M ∧ (v = sp_few (rc M0 3) k n)) ∧ px_Cl xs L d 163 [.ref 0, .int (iI (k)), .int (iI (n))] (sh, M0) (some (.long (lI v))) (sh, M) := by
  obtain ⟨d, rfl⟩ : ∃ e, d = e + 1 := ⟨d - 1, by omega⟩
  have q0 : px_qk sh [187] M0 M0 := ⟨hF, hG, eo_rf⟩
  refine vc_l (Nat.le_of_ble_eq_true rfl) ?_
  show px_R xs L d 163 (0, [.ref 0, .int (iI (k)), .int (iI (n))], [], (sh, M0)) (fun r h' => ∃ v M', r = some (.long (lI v)) ∧ h' = (sh, M') ∧ px_qk sh [187] M0 M' ∧ v = sp_few (rc M0 3) k n)
  refine rr_iload_n pf_163_0 rfl ?_
  refine rr_iconst pf_163_1 ?_
  refine rr_bipush pf_163_2 (by decide) ?_
  refine rr_cS3 pf_163_4 po_163 pc_8_95 (by decide) rfl (ct_S_within (by omega) hk0 (by unfold rg; omega) (by unfold rg; omega)) ?_
  refine rr_ifb_eq 20 pf_163_7 (by decide) (fun c1 => ?_) (fun c1 => ?_)
  · refine rr_ldc2_w pf_163_20 po_163 pl_8_340 ?_
    refine rr_lret pf_163_23 pt_163 ⟨_, M0, rfl, rfl, q0, (by unfold sp_few; rw [if_neg (by omega)])⟩
  · refine rr_iload_n pf_163_10 rfl ?_
    refine rr_iconst pf_163_11 ?_
    refine rr_bipush pf_163_12 (by decide) ?_
    refine rr_cS3 pf_163_14 po_163 pc_8_95 (by decide) rfl (ct_S_within (by omega) hn0 (by unfold rg; omega) (by unfold rg; omega)) ?_
    refine rr_ifb_ne 24 pf_163_17 (by decide) (fun c2 => ?_) (fun c2 => ?_)
    · refine rr_aload_n pf_163_24 rfl ?_
      refine rr_getR pf_163_25 po_163 pg_8_57 rfl (ws_0 hW) (by decide) (wr_0_7 q0.1) ?_
      refine rr_iload_n pf_163_28 rfl ?_
      refine rr_iload_n pf_163_29 rfl ?_
      obtain ⟨ka, rfl⟩ : ∃ z : Nat, k = ((z : Nat) : Int) := ⟨k.toNat, by omega⟩
      obtain ⟨na, rfl⟩ : ∃ z : Nat, n = ((z : Nat) : Int) := ⟨n.toNat, by omega⟩
      obtain ⟨r5, M3, ⟨kq4, pv_M3, pb_M3⟩, hcM3⟩ := ct_Paper_chanceOfFewer (xs := xs) (L := L) (d := d) (k := ka) (n := na) (by omega) hW q0.1 q0.2.1 hρ (by omega) (by omega)
      have q4 := qk_trm q0 kq4 (by decide)
      refine rr_cV2 pf_163_30 po_163 pc_8_342 (ws_175 hW) po_164 (by decide) rfl hcM3 ?_
      refine rr_lret pf_163_33 pt_163 ⟨_, M3, rfl, rfl, q4, (by unfold sp_few; rw [if_pos (by omega), Int.toNat_natCast, Int.toNat_natCast]; exact pv_M3)⟩
    · refine rr_ldc2_w pf_163_20 po_163 pl_8_340 ?_
      refine rr_lret pf_163_23 pt_163 ⟨_, M0, rfl, rfl, q0, (by unfold sp_few; rw [if_neg (by omega)])⟩

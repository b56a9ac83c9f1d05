/-! the class on paper: seats -/
theorem tb_0 (s k : Nat) : ((s : Nat) : Int) / 2 ^ k % 2 = 0 ↔ s.testBit k = false := by
  have h1 := tb_iff s k
  have h2 := tb_01 s k
  constructor
  · intro h
    cases hb : s.testBit k with
    | false => rfl
    | true => rw [hb] at h1; have := h1.mpr rfl; omega
  · intro h
    rw [h] at h1
    have h3 : ¬ ((s : Nat) : Int) / 2 ^ k % 2 = 1 := fun z => by cases h1.mp z
    omega
theorem tab_b {D : Nat → Nat → Int} (hD : ∀ l s, -9 ≤ D l s ∧ D l s ≤ 9) {n : Nat} (hn6 : n ≤ 6) {g : Nat → Int} {B : Nat} (hB : B < 256) (hlt : bcF B < n) (ht : ∀ s, s < 8 → B.testBit s = false → g (B ||| 2 ^ s) = bs D (n - bcF (B ||| 2 ^ s)) (bcF (B ||| 2 ^ s)) (B ||| 2 ^ s)) : ∀ s, s < 8 → B.testBit s = false → -60 ≤ g (B ||| 2 ^ s) ∧ g (B ||| 2 ^ s) ≤ 60 := by
  intro s hs hb
  obtain ⟨o1, o2, o3⟩ := or_bc B hB s hs hb
  have h := bs_b hD (n - bcF (B ||| 2 ^ s)) (bcF (B ||| 2 ^ s)) (B ||| 2 ^ s) o2 (by omega)
  rw [ht s hs hb]
  omega
theorem lp_Paper_mostFor_6 {xs : Nat → Int} {L d : Nat} {sh : List (Nat × Nat)}  (hW : px_W0 <+: sh) {M0 : Nat → Nat → Int}  {D : Nat → Nat → Int} (hD : ∀ l s, -9 ≤ D l s ∧ D l s ≤ 9) {n : Nat} (hn6 : n ≤ 6) (hdo : ∀ l s, l < n → s < 8 → M0 182 (8 * l + s) = D l s) {l B : Nat} (hl : l < n) (hB : B < 256) (htb : ∀ s, s < 8 → B.testBit s = false → -60 ≤ M0 183 (B ||| 2 ^ s) ∧ M0 183 (B ||| 2 ^ s) ≤ 60)  {Q : Option Value → px_H → Prop} (kx : ∀ (mo : Int) (s : Nat) (M : Nat → Nat → Int), px_qk sh [] M0 M → (mo = mxS (fun s => D l s + M0 183 (B ||| 2 ^ s)) B 8) → (-1000000 ≤ mo ∧ mo ≤ 100) → px_R xs L d 138 (57, [.ref 175, .int (iI (((l : Nat) : Int))), .int (iI (((B : Nat) : Int))), .int (iI (mo)), .int (iI (((s : Nat) : Int)))], [], (sh, M)) Q)  : ∀ (mz : Nat) (mo : Int) (s : Nat) (M : Nat → Nat → Int), 8 - s = mz → px_qk sh [] M0 M → (s ≤ 8) → (-1000000 ≤ mo ∧ mo ≤ 100) → (mo = mxS (fun s => D l s + M0 183 (B ||| 2 ^ s)) B s) → px_R xs L d 138 (6, [.ref 175, .int (iI (((l : Nat) : Int))), .int (iI (((B : Nat) : Int))), .int (iI (mo)), .int (iI (((s : Nat) : Int)))], [], (sh, M)) Q := by
  intro mz
  induction mz using Nat.strongRecOn with
  | _ mz ih =>
    intro mo s M hm hq hs8 hb hmo
    refine rr_iload pf_138_6 rfl ?_
    refine rr_bipush pf_138_8 (by decide) ?_
    refine rr_icmp_ge 57 pf_138_10 (by decide) (by unfold rg; omega) (by unfold rg; omega) (fun c1 => ?_) (fun c1 => ?_)
    · exact kx mo s M hq (by rw [hmo, show s = 8 by omega]) (hb)
    · refine rr_iload_n pf_138_13 rfl ?_
      refine rr_iload pf_138_14 rfl ?_
      refine rr_ishr (((B : Nat) : Int) / 2 ^ s) pf_138_16 (iI_shr (by unfold rg; omega) (by omega)) ?_
      refine rr_iconst pf_138_17 ?_
      refine rr_iand (((B : Nat) : Int) / 2 ^ s % 2) pf_138_18 iI_m1 ?_
      refine rr_if_ne 51 pf_138_19 (by decide) (by unfold rg; omega) (fun c2 => ?_) (fun c2 => ?_)
      · have hbit : ¬ B.testBit s = false := fun z => c2 ((tb_0 B s).mpr z)
        refine rr_iinc pf_138_51 rfl (fun y => [.ref 175, .int (iI (((l : Nat) : Int))), .int (iI (((B : Nat) : Int))), .int (iI (mo)), .int (iI (y))]) (fun _ => rfl) (fun y3 hy3 => ?_)
        refine rr_goto 6 pf_138_54 (by decide) ?_
        obtain ⟨nz4, hnz4, rfl⟩ : ∃ zz : Nat, zz = 1 + s ∧ y3 = ((zz : Nat) : Int) := ⟨1 + s, rfl, by omega⟩
        exact ih _ (by omega) mo nz4 M rfl hq (by omega) (by omega) (by rw [show nz4 = s + 1 by omega, mxS, if_neg hbit]; exact hmo)
      · have hbit := (tb_0 B s).mp (by omega)
        obtain ⟨o1, o2, o3⟩ := or_bc B hB s (by omega) hbit
        have htb1 := htb s (by omega) hbit
        have hDl := hD l s
        have hp8 : 2 ^ s ≤ 2 ^ 7 := Nat.pow_le_pow_right (by decide) (by omega)
        refine rr_iload_n pf_138_22 rfl ?_
        refine rr_aload_n pf_138_23 rfl ?_
        refine rr_getR pf_138_24 po_138 pg_2_37 rfl (ws_175 hW) (by decide) (wr_175_10 hq.1) ?_
        refine rr_iload_n pf_138_27 rfl ?_
        refine rr_bipush pf_138_28 (by decide) ?_
        refine rr_imul pf_138_30 ?_
        refine rr_iload pf_138_31 rfl ?_
        refine rr_iadd pf_138_33 ?_
        refine vr_iald (j := (8 * l + s)) hq pf_138_34 (ws_182 hW) (by omega) (by omega) (by decide) (fun x5 hx5 rx5 => ?_)
        rw [hq.2.2 182 (by decide)] at hx5
        rw [hdo l s hl (by omega)] at hx5
        refine rr_aload_n pf_138_35 rfl ?_
        refine rr_getR pf_138_36 po_138 pg_2_40 rfl (ws_175 hW) (by decide) (wr_175_11 hq.1) ?_
        refine rr_iload_n pf_138_39 rfl ?_
        refine rr_iconst pf_138_40 ?_
        refine rr_iload pf_138_41 rfl ?_
        refine rr_ishl (((2 ^ s : Nat) : Int)) pf_138_43 (iI_shl1 s (by omega)) ?_
        refine rr_ior (((B ||| 2 ^ s : Nat) : Int)) pf_138_44 (iI_or (by omega) (by omega)) ?_
        refine vr_iald (j := (B ||| 2 ^ s)) hq pf_138_45 (ws_183 hW) (by omega) (by omega) (by decide) (fun x6 hx6 rx6 => ?_)
        rw [hq.2.2 183 (by decide)] at hx6
        refine rr_iadd pf_138_46 ?_
        refine rr_max pf_138_47 po_138 pc_2_139 rfl (by unfold rg; omega) (by unfold rg; omega) ?_
        refine rr_istore_n pf_138_50 (fun y => [.ref 175, .int (iI (((l : Nat) : Int))), .int (iI (((B : Nat) : Int))), .int (iI (y)), .int (iI (((s : Nat) : Int)))]) (Nat.le_of_ble_eq_true rfl) (fun _ => rfl) (fun y7 hy7 => ?_)
        refine rr_iinc pf_138_51 rfl (fun y => [.ref 175, .int (iI (((l : Nat) : Int))), .int (iI (((B : Nat) : Int))), .int (iI (y7)), .int (iI (y))]) (fun _ => rfl) (fun y8 hy8 => ?_)
        refine rr_goto 6 pf_138_54 (by decide) ?_
        obtain ⟨nz9, hnz9, rfl⟩ : ∃ zz : Nat, zz = 1 + s ∧ y8 = ((zz : Nat) : Int) := ⟨1 + s, rfl, by omega⟩
        exact ih _ (by omega) y7 nz9 M rfl hq (by omega) (by omega) (by rw [show nz9 = s + 1 by omega, mxS, if_pos hbit]; show y7 = max (mxS (fun s => D l s + M0 183 (B ||| 2 ^ s)) B s) (D l s + M0 183 (B ||| 2 ^ s)); omega)
theorem ct_Paper_mostFor {xs : Nat → Int} {L d : Nat} {sh : List (Nat × Nat)} {M0 : Nat → Nat → Int} (hd : 1 ≤ d) (hW : px_W0 <+: sh) (hF : px_Fx M0) (hG : px_RG sh M0)  {D : Nat → Nat → Int} (hD : ∀ l s, -9 ≤ D l s ∧ D l s ≤ 9) {n : Nat} (hn6 : n ≤ 6) (hdo : ∀ l s, l < n → s < 8 → M0 182 (8 * l + s) = D l s) {l B : Nat} (hl : l < n) (hB : B < 256) (htb : ∀ s, s < 8 → B.testBit s = false → -60 ≤ M0 183 (B ||| 2 ^ s) ∧ M0 183 (B ||| 2 ^ s) ≤ 60) : ∃ v M, (px_qk sh [] M0 M ∧ (v = mxS (fun s => D l s + M0 183 (B ||| 2 ^ s)) B 8) ∧ (-1000000 ≤ v ∧ v ≤ 100)) ∧ px_Cl xs L d 138 [.ref 175, .int (iI (((l : Nat) : Int))), .int (iI (((B : Nat) : Int)))] (sh, M0) (some (.int (iI v))) (sh, M) := by
  obtain ⟨d, rfl⟩ : ∃ e, d = e + 1 := ⟨d - 1, by omega⟩
  have q0 : px_qk sh [] M0 M0 := ⟨hF, hG, eo_rf⟩
  refine vc_i (Nat.le_of_ble_eq_true rfl) ?_
  show px_R xs L d 138 (0, [.ref 175, .int (iI (((l : Nat) : Int))), .int (iI (((B : Nat) : Int))), px_jk, px_jk], [], (sh, M0)) (fun r h' => ∃ v M', r = some (.int (iI v)) ∧ h' = (sh, M') ∧ px_qk sh [] M0 M' ∧ v = mxS (fun s => D l s + M0 183 (B ||| 2 ^ s)) B 8 ∧ (-1000000 ≤ v ∧ v ≤ 100))
  refine rr_ldc pf_138_0 po_138 pk_2_159 ?_
  refine rr_istore_n pf_138_2 (fun y => [.ref 175, .int (iI (((l : Nat) : Int))), .int (iI (((B : Nat) : Int))), .int (iI (y)), px_jk]) (Nat.le_of_ble_eq_true rfl) (fun _ => rfl) (fun y1 hy1 => ?_)
  refine rr_iconst pf_138_3 ?_
  refine rr_istore pf_138_4 (fun y => [.ref 175, .int (iI (((l : Nat) : Int))), .int (iI (((B : Nat) : Int))), .int (iI (y1)), .int (iI (y))]) (Nat.le_of_ble_eq_true rfl) (fun _ => rfl) (fun y2 hy2 => ?_)
  obtain ⟨nz3, hnz3, rfl⟩ : ∃ zz : Nat, zz = 0 ∧ y2 = ((zz : Nat) : Int) := ⟨0, rfl, by omega⟩
  refine lp_Paper_mostFor_6 (xs := xs) (L := L) (d := d)  hW hD hn6 hdo hl hB htb (fun mo_4 s_5  M6 q7 xmo_M6 xb_M6 => ?_) _ y1 nz3 M0 rfl q0 (by omega) (by omega) (by rw [show nz3 = 0 by omega]; exact hy1)
  refine rr_iload_n pf_138_57 rfl ?_
  refine rr_iret pf_138_58 pt_138 ⟨_, M6, rfl, rfl, q7, (xmo_M6), (xb_M6)⟩
theorem lp_Paper_lowestBestSeat_2 {xs : Nat → Int} {L d : Nat} {sh : List (Nat × Nat)}  (hW : px_W0 <+: sh) {M0 : Nat → Nat → Int}  {D : Nat → Nat → Int} (hD : ∀ l s, -9 ≤ D l s ∧ D l s ≤ 9) {n : Nat} (hn6 : n ≤ 6) (hdo : ∀ l s, l < n → s < 8 → M0 182 (8 * l + s) = D l s) {l B : Nat} (hl : l < n) (hB : B < 256) (htb : ∀ s, s < 8 → B.testBit s = false → -60 ≤ M0 183 (B ||| 2 ^ s) ∧ M0 183 (B ||| 2 ^ s) ≤ 60)  {Q : Option Value → px_H → Prop} (kx : ∀ (s : Nat) (M : Nat → Nat → Int), px_qk sh [] M0 M → (loS (fun s => D l s + M0 183 (B ||| 2 ^ s)) B (M0 183 B) 8 = -1) → px_R xs L d 140 (55, [.ref 175, .int (iI (((l : Nat) : Int))), .int (iI (((B : Nat) : Int))), .int (iI (((s : Nat) : Int)))], [], (sh, M)) Q) (hQ : ∀ r h', (fun r h' => ∃ v M', r = some (.int (iI v)) ∧ h' = (sh, M') ∧ px_qk sh [] M0 M' ∧ v = loS (fun s => D l s + M0 183 (B ||| 2 ^ s)) B (M0 183 B) 8) r h' → Q r h') : ∀ (mz : Nat) (s : Nat) (M : Nat → Nat → Int), 8 - s = mz → px_qk sh [] M0 M → (s ≤ 8) → (loS (fun s => D l s + M0 183 (B ||| 2 ^ s)) B (M0 183 B) s = -1) → px_R xs L d 140 (2, [.ref 175, .int (iI (((l : Nat) : Int))), .int (iI (((B : Nat) : Int))), .int (iI (((s : Nat) : Int)))], [], (sh, M)) Q := by
  intro mz
  induction mz using Nat.strongRecOn with
  | _ mz ih =>
    intro s M hm hq hs8 hlo
    refine rr_iload_n pf_140_2 rfl ?_
    refine rr_bipush pf_140_3 (by decide) ?_
    refine rr_icmp_ge 55 pf_140_5 (by decide) (by unfold rg; omega) (by unfold rg; omega) (fun c1 => ?_) (fun c1 => ?_)
    · exact kx s M hq (by
                  have e : s = 8 := by omega
                  rw [e] at hlo; exact hlo)
    · refine rr_iload_n pf_140_8 rfl ?_
      refine rr_iload_n pf_140_9 rfl ?_
      refine rr_ishr (((B : Nat) : Int) / 2 ^ s) pf_140_10 (iI_shr (by unfold rg; omega) (by omega)) ?_
      refine rr_iconst pf_140_11 ?_
      refine rr_iand (((B : Nat) : Int) / 2 ^ s % 2) pf_140_12 iI_m1 ?_
      refine rr_if_ne 49 pf_140_13 (by decide) (by unfold rg; omega) (fun c2 => ?_) (fun c2 => ?_)
      · have hbit : ¬ B.testBit s = false := fun z => c2 ((tb_0 B s).mpr z)
        refine rr_iinc pf_140_49 rfl (fun y => [.ref 175, .int (iI (((l : Nat) : Int))), .int (iI (((B : Nat) : Int))), .int (iI (y))]) (fun _ => rfl) (fun y3 hy3 => ?_)
        refine rr_goto 2 pf_140_52 (by decide) ?_
        obtain ⟨nz4, hnz4, rfl⟩ : ∃ zz : Nat, zz = 1 + s ∧ y3 = ((zz : Nat) : Int) := ⟨1 + s, rfl, by omega⟩
        exact ih _ (by omega) nz4 M rfl hq (by omega) (by rw [show nz4 = s + 1 by omega, loS, if_pos hlo, if_neg (fun z => hbit z.1)])
      · have hbit := (tb_0 B s).mp (by omega)
        obtain ⟨o1, o2, o3⟩ := or_bc B hB s (by omega) hbit
        have htb1 := htb s (by omega) hbit
        have hDl := hD l s
        have hp8 : 2 ^ s ≤ 2 ^ 7 := Nat.pow_le_pow_right (by decide) (by omega)
        refine rr_aload_n pf_140_16 rfl ?_
        refine rr_getR pf_140_17 po_140 pg_2_37 rfl (ws_175 hW) (by decide) (wr_175_10 hq.1) ?_
        refine rr_iload_n pf_140_20 rfl ?_
        refine rr_bipush pf_140_21 (by decide) ?_
        refine rr_imul pf_140_23 ?_
        refine rr_iload_n pf_140_24 rfl ?_
        refine rr_iadd pf_140_25 ?_
        refine vr_iald (j := (8 * l + s)) hq pf_140_26 (ws_182 hW) (by omega) (by omega) (by decide) (fun x5 hx5 rx5 => ?_)
        rw [hq.2.2 182 (by decide)] at hx5
        rw [hdo l s hl (by omega)] at hx5
        refine rr_aload_n pf_140_27 rfl ?_
        refine rr_getR pf_140_28 po_140 pg_2_40 rfl (ws_175 hW) (by decide) (wr_175_11 hq.1) ?_
        refine rr_iload_n pf_140_31 rfl ?_
        refine rr_iconst pf_140_32 ?_
        refine rr_iload_n pf_140_33 rfl ?_
        refine rr_ishl (((2 ^ s : Nat) : Int)) pf_140_34 (iI_shl1 s (by omega)) ?_
        refine rr_ior (((B ||| 2 ^ s : Nat) : Int)) pf_140_35 (iI_or (by omega) (by omega)) ?_
        refine vr_iald (j := (B ||| 2 ^ s)) hq pf_140_36 (ws_183 hW) (by omega) (by omega) (by decide) (fun x6 hx6 rx6 => ?_)
        rw [hq.2.2 183 (by decide)] at hx6
        refine rr_iadd pf_140_37 ?_
        refine rr_aload_n pf_140_38 rfl ?_
        refine rr_getR pf_140_39 po_140 pg_2_40 rfl (ws_175 hW) (by decide) (wr_175_11 hq.1) ?_
        refine rr_iload_n pf_140_42 rfl ?_
        refine vr_iald (j := B) hq pf_140_43 (ws_183 hW) (by omega) (by omega) (by decide) (fun x7 hx7 rx7 => ?_)
        rw [hq.2.2 183 (by decide)] at hx7
        refine rr_icmp_ne 49 pf_140_44 (by decide) (by unfold rg; omega) rx7 (fun c8 => ?_) (fun c8 => ?_)
        · refine rr_iinc pf_140_49 rfl (fun y => [.ref 175, .int (iI (((l : Nat) : Int))), .int (iI (((B : Nat) : Int))), .int (iI (y))]) (fun _ => rfl) (fun y9 hy9 => ?_)
          refine rr_goto 2 pf_140_52 (by decide) ?_
          obtain ⟨nz10, hnz10, rfl⟩ : ∃ zz : Nat, zz = 1 + s ∧ y9 = ((zz : Nat) : Int) := ⟨1 + s, rfl, by omega⟩
          exact ih _ (by omega) nz10 M rfl hq (by omega) (by rw [show nz10 = s + 1 by omega, loS, if_pos hlo, if_neg (fun z => by have z2 : D l s + M0 183 (B ||| 2 ^ s) = M0 183 B := z.2; omega)])
        · refine rr_iload_n pf_140_47 rfl ?_
          refine rr_iret pf_140_48 pt_140 (hQ _ _ ⟨_, M, rfl, rfl, hq, (by
                          have e1 : loS (fun s => D l s + M0 183 (B ||| 2 ^ s)) B (M0 183 B) (s + 1) = ((s : Nat) : Int) := by rw [loS, if_pos hlo, if_pos ⟨hbit, by show D l s + M0 183 (B ||| 2 ^ s) = M0 183 B; omega⟩]
                          have e2 := loS_f (f := (fun s => D l s + M0 183 (B ||| 2 ^ s))) (T := B) (v := M0 183 B) (m := s + 1) (by rw [e1]; omega) (8 - (s + 1))
                          rw [show s + 1 + (8 - (s + 1)) = 8 by omega, e1] at e2
                          exact e2.symm)⟩)
theorem ct_Paper_lowestBestSeat {xs : Nat → Int} {L d : Nat} {sh : List (Nat × Nat)} {M0 : Nat → Nat → Int} (hd : 1 ≤ d) (hW : px_W0 <+: sh) (hF : px_Fx M0) (hG : px_RG sh M0)  {D : Nat → Nat → Int} (hD : ∀ l s, -9 ≤ D l s ∧ D l s ≤ 9) {n : Nat} (hn6 : n ≤ 6) (hdo : ∀ l s, l < n → s < 8 → M0 182 (8 * l + s) = D l s) {l B : Nat} (hl : l < n) (hB : B < 256) (htb : ∀ s, s < 8 → B.testBit s = false → -60 ≤ M0 183 (B ||| 2 ^ s) ∧ M0 183 (B ||| 2 ^ s) ≤ 60) : ∃ v M, (px_qk sh [] M0 M ∧ (v = loS (fun s => D l s + M0 183 (B ||| 2 ^ s)) B (M0 183 B) 8)) ∧ px_Cl xs L d 140 [.ref 175, .int (iI (((l : Nat) : Int))), .int (iI (((B : Nat) : Int)))] (sh, M0) (some (.int (iI v))) (sh, M) := by
  obtain ⟨d, rfl⟩ : ∃ e, d = e + 1 := ⟨d - 1, by omega⟩
  have q0 : px_qk sh [] M0 M0 := ⟨hF, hG, eo_rf⟩
  refine vc_i (Nat.le_of_ble_eq_true rfl) ?_
  show px_R xs L d 140 (0, [.ref 175, .int (iI (((l : Nat) : Int))), .int (iI (((B : Nat) : Int))), px_jk], [], (sh, M0)) (fun r h' => ∃ v M', r = some (.int (iI v)) ∧ h' = (sh, M') ∧ px_qk sh [] M0 M' ∧ v = loS (fun s => D l s + M0 183 (B ||| 2 ^ s)) B (M0 183 B) 8)
  refine rr_iconst pf_140_0 ?_
  refine rr_istore_n pf_140_1 (fun y => [.ref 175, .int (iI (((l : Nat) : Int))), .int (iI (((B : Nat) : Int))), .int (iI (y))]) (Nat.le_of_ble_eq_true rfl) (fun _ => rfl) (fun y1 hy1 => ?_)
  obtain ⟨nz2, hnz2, rfl⟩ : ∃ zz : Nat, zz = 0 ∧ y1 = ((zz : Nat) : Int) := ⟨0, rfl, by omega⟩
  refine lp_Paper_lowestBestSeat_2 (xs := xs) (L := L) (d := d)  hW hD hn6 hdo hl hB htb (fun s_3  M4 q5 xlo_M4 => ?_) (fun _ _ h => h) _ nz2 M0 rfl q0 (by omega) (by rw [show nz2 = 0 by omega]; rfl)
  refine rr_iconst pf_140_55 ?_
  refine rr_iret pf_140_56 pt_140 ⟨_, M4, rfl, rfl, q5, (by rw [xlo_M4])⟩
theorem lp_Paper_prepareSeats_18 {xs : Nat → Int} {L d : Nat} {sh : List (Nat × Nat)} (hd : 8 ≤ d) (hW : px_W0 <+: sh) {M0 : Nat → Nat → Int}  {ρ : Nat → Int} (hR : rc M0 3 = ρ) (hρ : sp_ok ρ) {lw : List sp_C} (hlw : px_lw sh M0 3 lw) {n : Nat} (hn : ρ 1 = ((n : Nat) : Int)) (hn6 : n ≤ 6) {s : Nat} (hs8 : s < 8) {Q : Option Value → px_H → Prop} (kx : ∀ (l : Nat) (M : Nat → Nat → Int), px_qk sh [2, 12, 13, 182, 183] M0 M → (∀ l s2 : Nat, l < n → s2 < s + 1 → M 182 (8 * l + s2) = sp_does lw ρ l s2) → px_R xs L d 136 (54, [.ref 175, .int (iI (((s : Nat) : Int))), .int (iI (((l : Nat) : Int)))], [], (sh, M)) Q)  : ∀ (mz : Nat) (l : Nat) (M : Nat → Nat → Int), n - l = mz → px_qk sh [2, 12, 13, 182, 183] M0 M → (l ≤ n) → (∀ h, h < 3 → M 12 h = sp_light lw ρ s h) → (∀ l2 s2 : Nat, l2 < n → (s2 < s ∨ (s2 = s ∧ l2 < l)) → M 182 (8 * l2 + s2) = sp_does lw ρ l2 s2) → px_R xs L d 136 (18, [.ref 175, .int (iI (((s : Nat) : Int))), .int (iI (((l : Nat) : Int)))], [], (sh, M)) Q := by
  intro mz
  induction mz using Nat.strongRecOn with
  | _ mz ih =>
    intro l M hm hq hl hpsh hv
    refine rr_iload_n pf_136_18 rfl ?_
    refine rr_aload_n pf_136_19 rfl ?_
    refine rr_getR pf_136_20 po_136 pg_2_65 rfl (ws_175 hW) (by decide) (wr_175_3 hq.1) ?_
    refine vr_getI hq pf_136_23 po_136 pg_2_145 rfl (ws_3 hW) (by decide) (fun x1 hx1 rx1 => ?_)
    rw [hq.2.2 3 (by decide)] at hx1
    change x1 = rc M0 3 1 at hx1
    rw [hR, hn] at hx1
    refine rr_icmp_ge 54 pf_136_26 (by decide) (by unfold rg; omega) rx1 (fun c2 => ?_) (fun c2 => ?_)
    · exact kx l M hq (by intro l2 s2 hl2 hs2; exact hv l2 s2 hl2 (by omega))
    · have hdb := does_b lw ρ l s
      refine rr_aload_n pf_136_29 rfl ?_
      refine rr_getR pf_136_30 po_136 pg_2_37 rfl (ws_175 hW) (by decide) (wr_175_10 hq.1) ?_
      refine rr_iload_n pf_136_33 rfl ?_
      refine rr_bipush pf_136_34 (by decide) ?_
      refine rr_imul pf_136_36 ?_
      refine rr_iload_n pf_136_37 rfl ?_
      refine rr_iadd pf_136_38 ?_
      refine rr_aload_n pf_136_39 rfl ?_
      refine rr_getR pf_136_40 po_136 pg_2_65 rfl (ws_175 hW) (by decide) (wr_175_3 hq.1) ?_
      refine rr_iload_n pf_136_43 rfl ?_
      obtain ⟨M3, kq4, hcM3⟩ := ct_Church_doesTo (xs := xs) (L := L) (d := d) (cb := 3) (l := l) (f := fun h => sp_light lw ρ s h) (by omega) hW hq.1 hq.2.1 (show px_ch 3 by unfold px_ch; decide) (show sp_ok (rc M 3) from by rw [((rc_eo hq.2.2 (by decide)).trans hR)]; exact hρ) (lw_eo hlw hq.2.2 (by decide) (by decide) (by decide)) (by omega) hpsh (fun h hh => sp_light_b lw hρ (by omega) hh)
      rw [((rc_eo hq.2.2 (by decide)).trans hR)] at hcM3
      rw [show sp_doesF lw ρ l (fun h => sp_light lw ρ s h) = sp_does lw ρ l s from rfl] at hcM3
      have q4 := qk_trm hq kq4 (by decide)
      have psh5 : ∀ h, h < 3 → M3 12 h = sp_light lw ρ s h := by rw [kq4.2.2 12 (by decide)]; exact hpsh
      refine rr_cV1 pf_136_44 po_136 pc_2_148 (ws_3 hW) po_43 (by decide) rfl hcM3 ?_
      refine vr_iast (j := (8 * l + s)) hW q4 pf_136_47 (ws_182 hW) (by omega) (by omega) (by decide) (by unfold rg; omega) (by decide) (fun M6 eM6 q7 => ?_)
      refine rr_iinc pf_136_48 rfl (fun y => [.ref 175, .int (iI (((s : Nat) : Int))), .int (iI (y))]) (fun _ => rfl) (fun y8 hy8 => ?_)
      refine rr_goto 18 pf_136_51 (by decide) ?_
      obtain ⟨nz9, hnz9, rfl⟩ : ∃ zz : Nat, zz = 1 + l ∧ y8 = ((zz : Nat) : Int) := ⟨1 + l, rfl, by omega⟩
      exact ih _ (by omega) nz9 M6 rfl q7 (by omega) (by intro h hh; rw [eM6, ask_ne (by decide)]; exact psh5 h hh) (by
                  intro l2 s2 hl2 hs2; rw [eM6, ask_up]; by_cases hz : 8 * l2 + s2 = 8 * l + s
                  · rw [if_pos (by omega), show l2 = l by omega, show s2 = s by omega]
                  · rw [if_neg (by omega), kq4.2.2 182 (by decide)]; exact hv l2 s2 hl2 (by omega))
theorem lp_Paper_prepareSeats_2 {xs : Nat → Int} {L d : Nat} {sh : List (Nat × Nat)} (hd : 8 ≤ d) (hW : px_W0 <+: sh) {M0 : Nat → Nat → Int}  {ρ : Nat → Int} (hR : rc M0 3 = ρ) (hρ : sp_ok ρ) {lw : List sp_C} (hlw : px_lw sh M0 3 lw) {n : Nat} (hn : ρ 1 = ((n : Nat) : Int)) (hn6 : n ≤ 6)  {Q : Option Value → px_H → Prop} (kx : ∀ (s : Nat) (v2 : Value) (M : Nat → Nat → Int), px_qk sh [2, 12, 13, 182, 183] M0 M → (∀ l s2 : Nat, l < n → s2 < 8 → M 182 (8 * l + s2) = sp_does lw ρ l s2) → px_R xs L d 136 (60, [.ref 175, .int (iI (((s : Nat) : Int))), v2], [], (sh, M)) Q)  : ∀ (mz : Nat) (s : Nat) (v2 : Value) (M : Nat → Nat → Int), 8 - s = mz → px_qk sh [2, 12, 13, 182, 183] M0 M → (s ≤ 8) → (∀ l s2 : Nat, l < n → s2 < s → M 182 (8 * l + s2) = sp_does lw ρ l s2) → px_R xs L d 136 (2, [.ref 175, .int (iI (((s : Nat) : Int))), v2], [], (sh, M)) Q := by
  intro mz
  induction mz using Nat.strongRecOn with
  | _ mz ih =>
    intro s v2 M hm hq hs8 hv
    refine rr_iload_n pf_136_2 rfl ?_
    refine rr_bipush pf_136_3 (by decide) ?_
    refine rr_icmp_ge 60 pf_136_5 (by decide) (by unfold rg; omega) (by unfold rg; omega) (fun c1 => ?_) (fun c1 => ?_)
    · exact kx s _ M hq (by intro l s2 hl hs2; exact hv l s2 hl (by omega))
    · refine rr_aload_n pf_136_8 rfl ?_
      refine rr_getR pf_136_9 po_136 pg_2_65 rfl (ws_175 hW) (by decide) (wr_175_3 hq.1) ?_
      refine rr_iload_n pf_136_12 rfl ?_
      obtain ⟨M2, ⟨kq3, psh_M2⟩, hcM2⟩ := ct_Church_shine (xs := xs) (L := L) (d := d) (cb := 3) (s := s) (by omega) hW hq.1 hq.2.1 (show px_ch 3 by unfold px_ch; decide) (show sp_ok (rc M 3) from by rw [((rc_eo hq.2.2 (by decide)).trans hR)]; exact hρ) (lw_eo hlw hq.2.2 (by decide) (by decide) (by decide)) (by omega)
      rw [((rc_eo hq.2.2 (by decide)).trans hR)] at psh_M2
      have q3 := qk_trm hq kq3 (by decide)
      refine rr_cV1 pf_136_13 po_136 pc_2_142 (ws_3 hW) po_41 (by decide) rfl hcM2 ?_
      refine rr_iconst pf_136_16 ?_
      refine rr_istore_n pf_136_17 (fun y => [.ref 175, .int (iI (((s : Nat) : Int))), .int (iI (y))]) (Nat.le_of_ble_eq_true rfl) (fun _ => rfl) (fun y4 hy4 => ?_)
      obtain ⟨nz5, hnz5, rfl⟩ : ∃ zz : Nat, zz = 0 ∧ y4 = ((zz : Nat) : Int) := ⟨0, rfl, by omega⟩
      refine lp_Paper_prepareSeats_18 (xs := xs) (L := L) (d := d) (by omega) hW hR hρ hlw hn hn6 (by omega) (fun l_6  M7 q8 xv_M7 => ?_) _ nz5 M2 rfl q3 (by omega) (psh_M2) (by intro l2 s2 hl2 hs2; rw [kq3.2.2 182 (by decide)]; exact hv l2 s2 hl2 (by omega))
      refine rr_iinc pf_136_54 rfl (fun y => [.ref 175, .int (iI (y)), .int (iI (((l_6 : Nat) : Int)))]) (fun _ => rfl) (fun y9 hy9 => ?_)
      refine rr_goto 2 pf_136_57 (by decide) ?_
      obtain ⟨nz10, hnz10, rfl⟩ : ∃ zz : Nat, zz = 1 + s ∧ y9 = ((zz : Nat) : Int) := ⟨1 + s, rfl, by omega⟩
      exact ih _ (by omega) nz10 _ M7 rfl q8 (by omega) (by intro l2 s2 hl2 hs2; exact xv_M7 l2 s2 hl2 (by omega))
theorem lp_Paper_prepareSeats_64 {xs : Nat → Int} {L d : Nat} {sh : List (Nat × Nat)} (hd : 8 ≤ d) (hW : px_W0 <+: sh) {M0 : Nat → Nat → Int}  {ρ : Nat → Int} (hR : rc M0 3 = ρ) (hρ : sp_ok ρ) {lw : List sp_C} (hlw : px_lw sh M0 3 lw) {n : Nat} (hn : ρ 1 = ((n : Nat) : Int)) (hn6 : n ≤ 6)  {Q : Option Value → px_H → Prop} (kx : ∀ (tk : Int) (v2 : Value) (M : Nat → Nat → Int), px_qk sh [2, 12, 13, 182, 183] M0 M → (∀ l s2 : Nat, l < n → s2 < 8 → M 182 (8 * l + s2) = sp_does lw ρ l s2) → (∀ B : Nat, B < 256 → M 183 B = bs (fun l s => sp_does lw ρ l s) (n - bcF B) (bcF B) B) → px_R xs L d 136 (106, [.ref 175, .int (iI (tk)), v2], [], (sh, M)) Q)  : ∀ (mz : Nat) (tk : Int) (v2 : Value) (M : Nat → Nat → Int), (tk + 1).toNat = mz → px_qk sh [2, 12, 13, 182, 183] M0 M → (-1 ≤ tk ∧ tk ≤ 255) → (∀ l s2 : Nat, l < n → s2 < 8 → M 182 (8 * l + s2) = sp_does lw ρ l s2) → (∀ B : Nat, B < 256 → tk < ((B : Nat) : Int) → M 183 B = bs (fun l s => sp_does lw ρ l s) (n - bcF B) (bcF B) B) → px_R xs L d 136 (64, [.ref 175, .int (iI (tk)), v2], [], (sh, M)) Q := by
  intro mz
  induction mz using Nat.strongRecOn with
  | _ mz ih =>
    intro tk v2 M hm hq hk hv ht
    refine rr_iload_n pf_136_64 rfl ?_
    refine rr_if_lt 106 pf_136_65 (by decide) (by unfold rg; omega) (fun c1 => ?_) (fun c1 => ?_)
    · exact kx tk _ M hq (hv) (by intro B hB; exact ht B hB (by omega))
    · obtain ⟨B, rfl⟩ : ∃ z : Nat, tk = ((z : Nat) : Int) := ⟨tk.toNat, by omega⟩
      have hB : B < 256 := by omega
      have hbc := bc_b (s := B) (by omega)
      refine rr_iload_n pf_136_68 rfl ?_
      obtain ⟨r4, M2, ⟨kq3, pv_M2⟩, hcM2⟩ := ct_Integer_bitCount (xs := xs) (L := L) (d := d) (s := B) (by omega) hW hq.1 hq.2.1 (by omega)
      obtain rfl := qk_nil kq3
      refine rr_cS1 pf_136_69 po_136 pc_2_151 (by decide) rfl hcM2 ?_
      refine rr_istore_n pf_136_72 (fun y => [.ref 175, .int (iI (((B : Nat) : Int))), .int (iI (y))]) (Nat.le_of_ble_eq_true rfl) (fun _ => rfl) (fun y5 hy5 => ?_)
      refine rr_aload_n pf_136_73 rfl ?_
      refine rr_getR pf_136_74 po_136 pg_2_40 rfl (ws_175 hW) (by decide) (wr_175_11 hq.1) ?_
      refine rr_iload_n pf_136_77 rfl ?_
      refine rr_iload_n pf_136_78 rfl ?_
      refine rr_aload_n pf_136_79 rfl ?_
      refine rr_getR pf_136_80 po_136 pg_2_65 rfl (ws_175 hW) (by decide) (wr_175_3 hq.1) ?_
      refine vr_getI hq pf_136_83 po_136 pg_2_145 rfl (ws_3 hW) (by decide) (fun x6 hx6 rx6 => ?_)
      rw [hq.2.2 3 (by decide)] at hx6
      change x6 = rc M0 3 1 at hx6
      rw [hR, hn] at hx6
      refine rr_icmp_ge 98 pf_136_86 (by decide) (by unfold rg; omega) rx6 (fun c7 => ?_) (fun c7 => ?_)
      · refine rr_iconst pf_136_98 ?_
        refine vr_iast (j := B) hW hq pf_136_99 (ws_183 hW) (by omega) (by omega) (by decide) (by unfold rg; omega) (by decide) (fun M8 eM8 q9 => ?_)
        refine rr_iinc pf_136_100 rfl (fun y => [.ref 175, .int (iI (y)), .int (iI (y5))]) (fun _ => rfl) (fun y10 hy10 => ?_)
        refine rr_goto 64 pf_136_103 (by decide) ?_
        exact ih _ (by omega) y10 _ M8 rfl q9 (by omega) (by intro l2 s2 hl2 hs2; rw [eM8, ask_ne (by decide)]; exact hv l2 s2 hl2 hs2) (by
                      intro B2 hB2 hlt; rw [eM8, ask_up]; by_cases hz : B2 = B
                      · rw [if_pos hz, hz, show n - bcF B = 0 by omega, bs]
                      · rw [if_neg hz]; exact ht B2 hB2 (by omega))
      · refine rr_aload_n pf_136_89 rfl ?_
        refine rr_iload_n pf_136_90 rfl ?_
        refine rr_iload_n pf_136_91 rfl ?_
        obtain ⟨r13, M11, ⟨kq12, pv_M11, pb_M11⟩, hcM11⟩ := ct_Paper_mostFor (xs := xs) (L := L) (d := d) (l := bcF B) (B := B) (D := (fun l s => sp_does lw ρ l s)) (n := n) (by omega) hW hq.1 hq.2.1 (fun l s => does_b lw ρ l s) hn6 hv (by omega) hB (tab_b (D := (fun l s => sp_does lw ρ l s)) (fun l s => does_b lw ρ l s) hn6 hB (by omega) (fun s hs hb => by obtain ⟨o1, o2, o3⟩ := or_bc B hB s hs hb; exact ht _ o2 (by omega)))
        rw [show ((bcF B : Nat) : Int) = y5 by omega] at hcM11
        obtain rfl := qk_nil kq12
        refine rr_cV2 pf_136_92 po_136 pc_2_156 (ws_175 hW) po_138 (by decide) rfl hcM11 ?_
        refine rr_goto 99 pf_136_95 (by decide) ?_
        refine vr_iast (j := B) hW hq pf_136_99 (ws_183 hW) (by omega) (by omega) (by decide) (by unfold rg; omega) (by decide) (fun M14 eM14 q15 => ?_)
        refine rr_iinc pf_136_100 rfl (fun y => [.ref 175, .int (iI (y)), .int (iI (y5))]) (fun _ => rfl) (fun y16 hy16 => ?_)
        refine rr_goto 64 pf_136_103 (by decide) ?_
        exact ih _ (by omega) y16 _ M14 rfl q15 (by omega) (by intro l2 s2 hl2 hs2; rw [eM14, ask_ne (by decide)]; exact hv l2 s2 hl2 hs2) (by
                      have hmx : r13 = bs (fun l s => sp_does lw ρ l s) (n - bcF B) (bcF B) B := by
                        rw [pv_M11, show n - bcF B = (n - bcF B - 1) + 1 by omega, bs]
                        refine mxS_congr 8 (fun s hs hb => ?_)
                        obtain ⟨o1, o2, o3⟩ := or_bc B hB s hs hb
                        show sp_does lw ρ (bcF B) s + M 183 (B ||| 2 ^ s) = sp_does lw ρ (bcF B) s + bs (fun l s => sp_does lw ρ l s) (n - bcF B - 1) (bcF B + 1) (B ||| 2 ^ s)
                        rw [ht (B ||| 2 ^ s) o2 (by omega), o1, show n - (bcF B + 1) = n - bcF B - 1 by omega]
                      intro B2 hB2 hlt; rw [eM14, ask_up]; by_cases hz : B2 = B
                      · rw [if_pos hz, hz]; exact hmx
                      · rw [if_neg hz]; exact ht B2 hB2 (by omega))
theorem ct_Paper_prepareSeats {xs : Nat → Int} {L d : Nat} {sh : List (Nat × Nat)} {M0 : Nat → Nat → Int} (hd : 9 ≤ d) (hW : px_W0 <+: sh) (hF : px_Fx M0) (hG : px_RG sh M0)  {ρ : Nat → Int} (hR : rc M0 3 = ρ) (hρ : sp_ok ρ) {lw : List sp_C} (hlw : px_lw sh M0 3 lw) {n : Nat} (hn : ρ 1 = ((n : Nat) : Int)) (hn6 : n ≤ 6) : ∃ v M, (px_qk sh [2, 12, 13, 182, 183] M0 M ∧ (v = bs (fun l s => sp_does lw ρ l s) n 0 0) ∧ (∀ B : Nat, B < 256 → M 183 B = bs (fun l s => sp_does lw ρ l s) (n - bcF B) (bcF B) B) ∧ (∀ l s2 : Nat, l < n → s2 < 8 → M 182 (8 * l + s2) = sp_does lw ρ l s2)) ∧ px_Cl xs L d 136 [.ref 175] (sh, M0) (some (.int (iI v))) (sh, M) := by
  obtain ⟨d, rfl⟩ : ∃ e, d = e + 1 := ⟨d - 1, by omega⟩
  have q0 : px_qk sh [2, 12, 13, 182, 183] M0 M0 := ⟨hF, hG, eo_rf⟩
  refine vc_i (Nat.le_of_ble_eq_true rfl) ?_
  show px_R xs L d 136 (0, [.ref 175, px_jk, px_jk], [], (sh, M0)) (fun r h' => ∃ v M', r = some (.int (iI v)) ∧ h' = (sh, M') ∧ px_qk sh [2, 12, 13, 182, 183] M0 M' ∧ v = bs (fun l s => sp_does lw ρ l s) n 0 0 ∧ (∀ B : Nat, B < 256 → M' 183 B = bs (fun l s => sp_does lw ρ l s) (n - bcF B) (bcF B) B) ∧ (∀ l s2 : Nat, l < n → s2 < 8 → M' 182 (8 * l + s2) = sp_does lw ρ l s2))
  refine rr_iconst pf_136_0 ?_
  refine rr_istore_n pf_136_1 (fun y => [.ref 175, .int (iI (y)), px_jk]) (Nat.le_of_ble_eq_true rfl) (fun _ => rfl) (fun y1 hy1 => ?_)
  obtain ⟨nz2, hnz2, rfl⟩ : ∃ zz : Nat, zz = 0 ∧ y1 = ((zz : Nat) : Int) := ⟨0, rfl, by omega⟩
  refine lp_Paper_prepareSeats_2 (xs := xs) (L := L) (d := d) (by omega) hW hR hρ hlw hn hn6 (fun s_3 v6 M4 q5 xv_M4 => ?_) _ nz2 _ M0 rfl q0 (by omega) (by intro l s2 hl hs2; exfalso; omega)
  refine rr_sipush pf_136_60 (by decide) ?_
  refine rr_istore_n pf_136_63 (fun y => [.ref 175, .int (iI (y)), v6]) (Nat.le_of_ble_eq_true rfl) (fun _ => rfl) (fun y7 hy7 => ?_)
  refine lp_Paper_prepareSeats_64 (xs := xs) (L := L) (d := d) (by omega) hW hR hρ hlw hn hn6 (fun tk_8 v11 M9 q10 xv_M9 xt_M9 => ?_) _ y7 _ M4 rfl q5 (by omega) (xv_M4) (by intro B hB hlt; exfalso; omega)
  refine rr_aload_n pf_136_106 rfl ?_
  refine rr_getR pf_136_107 po_136 pg_2_40 rfl (ws_175 hW) (by decide) (wr_175_11 q10.1) ?_
  refine rr_iconst pf_136_110 ?_
  refine vr_iald (j := 0) q10 pf_136_111 (ws_183 hW) (by omega) (by omega) (by decide) (fun x12 hx12 rx12 => ?_)
  refine rr_iret pf_136_112 pt_136 ⟨_, M9, rfl, rfl, q10, (by rw [hx12, xt_M9 0 (by decide), show bcF 0 = 0 by decide]; rfl), (xt_M9), (xv_M9)⟩
theorem lp_Paper_seatOf_7 {xs : Nat → Int} {L d : Nat} {sh : List (Nat × Nat)} (hd : 1 ≤ d) (hW : px_W0 <+: sh) {M0 : Nat → Nat → Int}  {D : Nat → Nat → Int} (hD : ∀ l s, -9 ≤ D l s ∧ D l s ≤ 9) {n : Nat} (hn6 : n ≤ 6) (hdo : ∀ l s, l < n → s < 8 → M0 182 (8 * l + s) = D l s) (htab : ∀ B : Nat, B < 256 → M0 183 B = bs D (n - bcF B) (bcF B) B) {k : Nat} (hk : k < n)  {Q : Option Value → px_H → Prop} (kx : ∀ (B : Nat) (la : Int) (l : Nat) (M : Nat → Nat → Int), px_qk sh [] M0 M → (la = ((stB D n k (stT D n k) : Nat) : Int)) → px_R xs L d 139 (42, [.ref 175, .int (iI (((k : Nat) : Int))), .int (iI (((B : Nat) : Int))), .int (iI (la)), .int (iI (((l : Nat) : Int)))], [], (sh, M)) Q) (hQ : ∀ r h', (fun r h' => ∃ v M', r = some (.int (iI v)) ∧ h' = (sh, M') ∧ px_qk sh [] M0 M' ∧ v = ((stB D n k (stT D n k) : Nat) : Int)) r h' → Q r h') : ∀ (mz : Nat) (B : Nat) (la : Int) (l : Nat) (M : Nat → Nat → Int), k + 1 - l = mz → px_qk sh [] M0 M → (l ≤ k + 1) → (B = stT D n l) → (B < 256) → ((l = 0 ∧ la = -1) ∨ (0 < l ∧ la = ((stB D n (l - 1) (stT D n (l - 1)) : Nat) : Int))) → px_R xs L d 139 (7, [.ref 175, .int (iI (((k : Nat) : Int))), .int (iI (((B : Nat) : Int))), .int (iI (la)), .int (iI (((l : Nat) : Int)))], [], (sh, M)) Q := by
  intro mz
  induction mz using Nat.strongRecOn with
  | _ mz ih =>
    intro B la l M hm hq hl hB hB2 hla
    refine rr_iload pf_139_7 rfl ?_
    refine rr_iload_n pf_139_9 rfl ?_
    refine rr_icmp_gt 42 pf_139_10 (by decide) (by unfold rg; omega) (by unfold rg; omega) (fun c1 => ?_) (fun c1 => ?_)
    · exact kx B la l M hq (by
                  have e : l = k + 1 := by omega
                  rw [e] at hla; rcases hla with z | z
                  · omega
                  · exact z.2)
    · obtain ⟨t1, t2⟩ := stT_ok hD hn6 l (by omega)
      obtain ⟨a, a1, a2, a3, a4, a5⟩ := st_ok hD hn6 (l := l) (T := B) (by omega) (by omega) (by rw [hB]; exact t2)
      obtain ⟨o1, o2, o3⟩ := or_bc B (by omega) a a1 a2
      have hbb := bs_b hD (n - l) l B (by omega) (by rw [hB, t2]; omega)
      refine rr_aload_n pf_139_13 rfl ?_
      refine rr_iload pf_139_14 rfl ?_
      refine rr_iload_n pf_139_16 rfl ?_
      obtain ⟨r4, M2, ⟨kq3, pv_M2⟩, hcM2⟩ := ct_Paper_lowestBestSeat (xs := xs) (L := L) (d := d) (l := l) (B := B) (D := D) (n := n) (by omega) hW hq.1 hq.2.1 hD hn6 (by rw [hq.2.2 182 (by decide)]; exact hdo) (by omega) (by omega) (tab_b (D := D) hD hn6 (by omega) (show bcF B < n by rw [hB, t2]; omega) (fun s hs hb => by obtain ⟨p1, p2, p3⟩ := or_bc B (by omega) s hs hb; rw [hq.2.2 183 (by decide)]; exact htab _ p2))
      obtain rfl := qk_nil kq3
      refine rr_cV2 pf_139_17 po_139 pc_2_160 (ws_175 hW) po_140 (by decide) rfl hcM2 ?_
      have hpl : r4 = ((a : Nat) : Int) := by
        rw [pv_M2, hq.2.2 183 (by decide), htab B (by omega), show bcF B = l by rw [hB]; exact t2, ← a4]
        refine loS_congr 8 (fun s hs hb => ?_)
        obtain ⟨p1, p2, p3⟩ := or_bc B (by omega) s hs hb
        show D l s + M0 183 (B ||| 2 ^ s) = D l s + bs D (n - l - 1) (l + 1) (B ||| 2 ^ s)
        rw [htab _ p2, p1, show bcF B = l by rw [hB]; exact t2, show n - (l + 1) = n - l - 1 by omega]
      have hpa : 2 ^ a ≤ 2 ^ 7 := Nat.pow_le_pow_right (by decide) (by omega)
      refine rr_istore_n pf_139_20 (fun y => [.ref 175, .int (iI (((k : Nat) : Int))), .int (iI (((B : Nat) : Int))), .int (iI (y)), .int (iI (((l : Nat) : Int)))]) (Nat.le_of_ble_eq_true rfl) (fun _ => rfl) (fun y5 hy5 => ?_)
      refine rr_iload_n pf_139_21 rfl ?_
      refine rr_iconst pf_139_22 ?_
      refine rr_icmp_ne 30 pf_139_23 (by decide) (by unfold rg; omega) (by unfold rg; omega) (fun c6 => ?_) (fun c6 => ?_)
      · obtain rfl : y5 = ((a : Nat) : Int) := by omega
        refine rr_iload_n pf_139_30 rfl ?_
        refine rr_iconst pf_139_31 ?_
        refine rr_iload_n pf_139_32 rfl ?_
        refine rr_ishl (((2 ^ a : Nat) : Int)) pf_139_33 (iI_shl1 a (by omega)) ?_
        refine rr_ior (((B ||| 2 ^ a : Nat) : Int)) pf_139_34 (iI_or (by omega) (by omega)) ?_
        refine rr_istore_n pf_139_35 (fun y => [.ref 175, .int (iI (((k : Nat) : Int))), .int (iI (y)), .int (iI (((a : Nat) : Int))), .int (iI (((l : Nat) : Int)))]) (Nat.le_of_ble_eq_true rfl) (fun _ => rfl) (fun y7 hy7 => ?_)
        refine rr_iinc pf_139_36 rfl (fun y => [.ref 175, .int (iI (((k : Nat) : Int))), .int (iI (y7)), .int (iI (((a : Nat) : Int))), .int (iI (y))]) (fun _ => rfl) (fun y8 hy8 => ?_)
        refine rr_goto 7 pf_139_39 (by decide) ?_
        obtain ⟨nz9, hnz9, rfl⟩ : ∃ zz : Nat, zz = y7.toNat ∧ y7 = ((zz : Nat) : Int) := ⟨y7.toNat, rfl, by omega⟩
        obtain ⟨nz10, hnz10, rfl⟩ : ∃ zz : Nat, zz = 1 + l ∧ y8 = ((zz : Nat) : Int) := ⟨1 + l, rfl, by omega⟩
        exact ih _ (by omega) nz9 ((a : Nat) : Int) nz10 M rfl hq (by omega) (by rw [show nz10 = l + 1 by omega, stT, ← hB, a5]; omega) (by omega) (by right; rw [show nz10 - 1 = l by omega, ← hB, a5]; omega)
      · exfalso; omega
theorem ct_Paper_seatOf {xs : Nat → Int} {L d : Nat} {sh : List (Nat × Nat)} {M0 : Nat → Nat → Int} (hd : 2 ≤ d) (hW : px_W0 <+: sh) (hF : px_Fx M0) (hG : px_RG sh M0)  {D : Nat → Nat → Int} (hD : ∀ l s, -9 ≤ D l s ∧ D l s ≤ 9) {n : Nat} (hn6 : n ≤ 6) (hdo : ∀ l s, l < n → s < 8 → M0 182 (8 * l + s) = D l s) (htab : ∀ B : Nat, B < 256 → M0 183 B = bs D (n - bcF B) (bcF B) B) {k : Nat} (hk : k < n) : ∃ v M, (px_qk sh [] M0 M ∧ (v = ((stB D n k (stT D n k) : Nat) : Int))) ∧ px_Cl xs L d 139 [.ref 175, .int (iI (((k : Nat) : Int)))] (sh, M0) (some (.int (iI v))) (sh, M) := by
  obtain ⟨d, rfl⟩ : ∃ e, d = e + 1 := ⟨d - 1, by omega⟩
  have q0 : px_qk sh [] M0 M0 := ⟨hF, hG, eo_rf⟩
  refine vc_i (Nat.le_of_ble_eq_true rfl) ?_
  show px_R xs L d 139 (0, [.ref 175, .int (iI (((k : Nat) : Int))), px_jk, px_jk, px_jk], [], (sh, M0)) (fun r h' => ∃ v M', r = some (.int (iI v)) ∧ h' = (sh, M') ∧ px_qk sh [] M0 M' ∧ v = ((stB D n k (stT D n k) : Nat) : Int))
  refine rr_iconst pf_139_0 ?_
  refine rr_istore_n pf_139_1 (fun y => [.ref 175, .int (iI (((k : Nat) : Int))), .int (iI (y)), px_jk, px_jk]) (Nat.le_of_ble_eq_true rfl) (fun _ => rfl) (fun y1 hy1 => ?_)
  refine rr_iconst pf_139_2 ?_
  refine rr_istore_n pf_139_3 (fun y => [.ref 175, .int (iI (((k : Nat) : Int))), .int (iI (y1)), .int (iI (y)), px_jk]) (Nat.le_of_ble_eq_true rfl) (fun _ => rfl) (fun y2 hy2 => ?_)
  refine rr_iconst pf_139_4 ?_
  refine rr_istore pf_139_5 (fun y => [.ref 175, .int (iI (((k : Nat) : Int))), .int (iI (y1)), .int (iI (y2)), .int (iI (y))]) (Nat.le_of_ble_eq_true rfl) (fun _ => rfl) (fun y3 hy3 => ?_)
  obtain ⟨nz4, hnz4, rfl⟩ : ∃ zz : Nat, zz = 0 ∧ y1 = ((zz : Nat) : Int) := ⟨0, rfl, by omega⟩
  obtain ⟨nz5, hnz5, rfl⟩ : ∃ zz : Nat, zz = 0 ∧ y3 = ((zz : Nat) : Int) := ⟨0, rfl, by omega⟩
  refine lp_Paper_seatOf_7 (xs := xs) (L := L) (d := d) (by omega) hW hD hn6 hdo htab hk (fun B_6 la_7 l_8  M9 q10 xla_M9 => ?_) (fun _ _ h => h) _ nz4 y2 nz5 M0 rfl q0 (by omega) (by rw [show nz5 = 0 by omega, show nz4 = 0 by omega]; rfl) (by omega) (by omega)
  refine rr_iload_n pf_139_42 rfl ?_
  refine rr_iret pf_139_43 pt_139 ⟨_, M9, rfl, rfl, q10, (xla_M9)⟩
noncomputable def sp_sea (lw : List sp_C) (ρ : Nat → Int) (u : Int) : Int := if 0 ≤ u ∧ u ≤ ρ 1 then (if u = 0 then bs (fun l s => sp_does lw ρ l s) (ρ 1).toNat 0 0 else ((stB (fun l s => sp_does lw ρ l s) (ρ 1).toNat (u - 1).toNat (stT (fun l s => sp_does lw ρ l s) (ρ 1).toNat (u - 1).toNat) : Nat) : Int)) else -1000
theorem ct_S_seated {xs : Nat → Int} {L d : Nat} {sh : List (Nat × Nat)} {M0 : Nat → Nat → Int} (hd : 10 ≤ d) (hW : px_W0 <+: sh) (hF : px_Fx M0) (hG : px_RG sh M0)  {ρ : Nat → Int} (hR : rc M0 3 = ρ) (hρ : sp_ok ρ) {lw : List sp_C} (hlw : px_lw sh M0 3 lw) {n : Nat} (hn : ρ 1 = ((n : Nat) : Int)) (hn6 : n ≤ 6) {u : Int} (hu0 : rg u) : ∃ v M, (px_qk sh [2, 12, 13, 182, 183] M0 M ∧ (v = sp_sea lw ρ u)) ∧ px_Cl xs L d 135 [.ref 0, .int (iI (u))] (sh, M0) (some (.int (iI v))) (sh, M) := by
  obtain ⟨d, rfl⟩ : ∃ e, d = e + 1 := ⟨d - 1, by omega⟩
  have q0 : px_qk sh [2, 12, 13, 182, 183] M0 M0 := ⟨hF, hG, eo_rf⟩
  refine vc_i (Nat.le_of_ble_eq_true rfl) ?_
  show px_R xs L d 135 (0, [.ref 0, .int (iI (u)), px_jk], [], (sh, M0)) (fun r h' => ∃ v M', r = some (.int (iI v)) ∧ h' = (sh, M') ∧ px_qk sh [2, 12, 13, 182, 183] M0 M' ∧ v = sp_sea lw ρ u)
  refine rr_iload_n pf_135_0 rfl ?_
  refine rr_iconst pf_135_1 ?_
  refine rr_aload_n pf_135_2 rfl ?_
  refine rr_getR pf_135_3 po_135 pg_8_21 rfl (ws_0 hW) (by decide) (wr_0_1 q0.1) ?_
  refine vr_getI q0 pf_135_6 po_135 pg_8_155 rfl (ws_3 hW) (by decide) (fun x1 hx1 rx1 => ?_)
  change x1 = rc M0 3 1 at hx1
  rw [hR, hn] at hx1
  refine rr_cS3 pf_135_9 po_135 pc_8_95 (by decide) rfl (ct_S_within (by omega) hu0 (by unfold rg; omega) rx1) ?_
  refine rr_ifb_ne 19 pf_135_12 (by decide) (fun c2 => ?_) (fun c2 => ?_)
  · refine rr_aload_n pf_135_19 rfl ?_
    refine rr_getR pf_135_20 po_135 pg_8_57 rfl (ws_0 hW) (by decide) (wr_0_7 q0.1) ?_
    obtain ⟨r5, M3, ⟨kq4, pv_M3, ptb_M3, pdo_M3⟩, hcM3⟩ := ct_Paper_prepareSeats (xs := xs) (L := L) (d := d) (lw := lw) (n := n) (by omega) hW q0.1 q0.2.1 hR hρ hlw hn hn6
    have q4 := qk_trm q0 kq4 (by decide)
    refine rr_cV0 pf_135_23 po_135 pc_8_302 (ws_175 hW) po_136 (by decide) rfl hcM3 ?_
    have hbb := bs_b (fun l s => does_b lw ρ l s) n 0 0 (by decide) (by rw [show bcF 0 = 0 by decide]; omega)
    refine rr_istore_n pf_135_26 (fun y => [.ref 0, .int (iI (u)), .int (iI (y))]) (Nat.le_of_ble_eq_true rfl) (fun _ => rfl) (fun y6 hy6 => ?_)
    refine rr_iload_n pf_135_27 rfl ?_
    refine rr_if_ne 35 pf_135_28 (by decide) hu0 (fun c7 => ?_) (fun c7 => ?_)
    · refine rr_aload_n pf_135_35 rfl ?_
      refine rr_getR pf_135_36 po_135 pg_8_57 rfl (ws_0 hW) (by decide) (wr_0_7 q4.1) ?_
      refine rr_iload_n pf_135_39 rfl ?_
      refine rr_iconst pf_135_40 ?_
      refine rr_isub pf_135_41 ?_
      obtain ⟨r10, M8, ⟨kq9, pv_M8⟩, hcM8⟩ := ct_Paper_seatOf (xs := xs) (L := L) (d := d) (k := (u - 1).toNat) (D := (fun l s => sp_does lw ρ l s)) (n := n) (by omega) hW q4.1 q4.2.1 (fun l s => does_b lw ρ l s) hn6 pdo_M3 ptb_M3 (by omega)
      rw [show (((u - 1).toNat : Nat) : Int) = u - 1 by omega] at hcM8
      obtain rfl := qk_nil kq9
      refine rr_cV1 pf_135_42 po_135 pc_8_305 (ws_175 hW) po_139 (by decide) rfl hcM8 ?_
      refine rr_iret pf_135_45 pt_135 ⟨_, M3, rfl, rfl, q4, (by unfold sp_sea; rw [if_pos (by omega), if_neg (by omega), show (ρ 1).toNat = n by omega]; exact pv_M8)⟩
    · refine rr_iload_n pf_135_31 rfl ?_
      refine rr_goto 45 pf_135_32 (by decide) ?_
      refine rr_iret pf_135_45 pt_135 ⟨_, M3, rfl, rfl, q4, (by unfold sp_sea; rw [if_pos (by omega), if_pos (by omega), show (ρ 1).toNat = n by omega]; rw [← pv_M3]; assumption)⟩
  · refine rr_sipush pf_135_15 (by decide) ?_
    refine rr_iret pf_135_18 pt_135 ⟨_, M0, rfl, rfl, q0, (by unfold sp_sea; rw [if_neg (by omega)])⟩

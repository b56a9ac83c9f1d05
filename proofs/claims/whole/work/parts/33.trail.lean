/-! naves and trails -/
theorem nv_far {a b : Nat} (h1 : px_nv a) (h2 : px_nv b) : 4 ≤ a ∧ a + 4 ≤ 264 ∧ (a + 4 ≤ 201 ∨ 204 < a) ∧ (a + 4 ≤ b ∨ b + 4 ≤ a ∨ a = b) := (show ∀ c ∈ px_nvL, ∀ e ∈ px_nvL, 4 ≤ c ∧ c + 4 ≤ 264 ∧ (c + 4 ≤ 201 ∨ 204 < c) ∧ (c + 4 ≤ e ∨ e + 4 ≤ c ∨ c = e) by decide +kernel) a h1 b h2
/-- a nave, read as the part of a row that it is: hour 5, pulpit 8, hues from 9, seats from 57, spirits from 63 -/
def nn (M : Nat → Nat → Int) (nb j : Nat) : Int := if j = 5 then M nb 4 else if j = 8 then M nb 3 else if j < 57 then M (nb + 1) (j - 9) else if j < 63 then M (nb + 3) (j - 57) else M (nb + 2) (j - 63)
theorem nn_rc {M : Nat → Nat → Int} {cb j : Nat} (h : (j = 5 ∨ 8 ≤ j) ∧ j < 69) : rc M cb j = nn M (cb + 1) j := by
  unfold nn rc
  rw [show cb + 1 + 1 = cb + 2 from rfl, show cb + 1 + 2 = cb + 3 from rfl, show cb + 1 + 3 = cb + 4 from rfl]
  repeat' split
  all_goals first | rfl | omega
theorem nn_eq {M M2 : Nat → Nat → Int} {nb : Nat} (h : ∀ i, i < 4 → M2 (nb + i) = M (nb + i)) (j : Nat) : nn M2 nb j = nn M nb j := by
  have h0 : M2 nb = M nb := h 0 (by omega)
  unfold nn
  rw [h0, h 1 (by omega), h 2 (by omega), h 3 (by omega)]
abbrev px_nvA (nb : Nat) : List Nat := [nb, nb + 1, nb + 2, nb + 3]
theorem cp_ne {M : Nat → Nat → Int} {a0 a1 sp dp m b : Nat} (h : b ≠ a1) : px_copy M a0 sp a1 dp m b = M b := by funext j; unfold px_copy px_cl; rw [if_neg h]
/-- the nave nb has become what mb was -/
def nnEq (M' M : Nat → Nat → Int) (nb mb : Nat) : Prop := ∀ j, (j = 5 ∨ 8 ≤ j) ∧ j < 69 → nn M' nb j = nn M mb j
theorem ct_Nave_copyFrom {xs : Nat → Int} {L d : Nat} {sh : List (Nat × Nat)} {M : Nat → Nat → Int} (hd : 1 ≤ d) (hW : px_W0 <+: sh) (hF : px_Fx M) (hG : px_RG sh M) {nb mb : Nat} (hnb : px_nv nb) (hmb : px_nv mb) (hne : nb ≠ mb) : ∃ M', (px_qk sh (px_nvA nb) M M' ∧ nnEq M' M nb mb) ∧ px_Cl xs L d 94 [.ref nb, .ref mb] (sh, M) none (sh, M') := by
  obtain ⟨d, rfl⟩ : ∃ e, d = e + 1 := ⟨d - 1, by omega⟩
  have hfr := nv_far hnb hmb
  have hfr2 := nv_far hmb hnb
  refine px_Cl_m (Nat.le_of_ble_eq_true rfl) ?_
  show px_R xs L d 94 (0, [.ref nb, .ref mb], [], (sh, M)) _
  refine rr_aload_n pf_94_0 rfl ?_
  refine rr_getR pf_94_1 po_94 pg_1_9 rfl (ns_z hW hmb) (by decide) (nf_0 hF hmb) ?_
  refine rr_iconst pf_94_4 ?_
  refine rr_aload_n pf_94_5 rfl ?_
  refine rr_getR pf_94_6 po_94 pg_1_9 rfl (ns_z hW hnb) (by decide) (nf_0 hF hnb) ?_
  refine rr_iconst pf_94_9 ?_
  refine rr_aload_n pf_94_10 rfl ?_
  refine rr_getR pf_94_11 po_94 pg_1_9 rfl (ns_z hW hnb) (by decide) (nf_0 hF hnb) ?_
  refine rr_alen pf_94_14 (ns_1 hW hnb) (by decide) ?_
  refine rr_copy pf_94_15 po_94 pc_1_28 rfl (ns_1 hW hmb) (ns_1 hW hnb) (by omega) (by omega) (by omega) (by omega) (by omega) ⟨by unfold rg; omega, by unfold rg; omega, by unfold rg; omega⟩ (fun M1 eM1 => ?_)
  have hF2 : px_Fx M1 := by rw [eM1]; exact fx_cl hW hF (ns_1 hW hnb) (by decide)
  have hG3 : px_RG sh M1 := by rw [eM1]; exact rg_copy hG (ns_1 hW hmb) (ns_1 hW hnb)
  have hE4 : px_eo (px_nvA nb) M M1 := eo_tr eo_rf (by rw [eM1]; exact eo_cl (by simp))
  refine rr_aload_n pf_94_18 rfl ?_
  refine rr_getR pf_94_19 po_94 pg_1_15 rfl (ns_z hW hmb) (by decide) (nf_1 hF2 hmb) ?_
  refine rr_iconst pf_94_22 ?_
  refine rr_aload_n pf_94_23 rfl ?_
  refine rr_getR pf_94_24 po_94 pg_1_15 rfl (ns_z hW hnb) (by decide) (nf_1 hF2 hnb) ?_
  refine rr_iconst pf_94_27 ?_
  refine rr_bipush pf_94_28 (by decide) ?_
  refine rr_copy pf_94_30 po_94 pc_1_28 rfl (ns_2 hW hmb) (ns_2 hW hnb) (by omega) (by omega) (by omega) (by omega) (by omega) ⟨by unfold rg; omega, by unfold rg; omega, by unfold rg; omega⟩ (fun M5 eM5 => ?_)
  have hF6 : px_Fx M5 := by rw [eM5]; exact fx_cl hW hF2 (ns_2 hW hnb) (by decide)
  have hG7 : px_RG sh M5 := by rw [eM5]; exact rg_copy hG3 (ns_2 hW hmb) (ns_2 hW hnb)
  have hE8 : px_eo (px_nvA nb) M M5 := eo_tr hE4 (by rw [eM5]; exact eo_cl (by simp))
  refine rr_aload_n pf_94_33 rfl ?_
  refine rr_getR pf_94_34 po_94 pg_1_18 rfl (ns_z hW hmb) (by decide) (nf_2 hF6 hmb) ?_
  refine rr_iconst pf_94_37 ?_
  refine rr_aload_n pf_94_38 rfl ?_
  refine rr_getR pf_94_39 po_94 pg_1_18 rfl (ns_z hW hnb) (by decide) (nf_2 hF6 hnb) ?_
  refine rr_iconst pf_94_42 ?_
  refine rr_bipush pf_94_43 (by decide) ?_
  refine rr_copy pf_94_45 po_94 pc_1_28 rfl (ns_3 hW hmb) (ns_3 hW hnb) (by omega) (by omega) (by omega) (by omega) (by omega) ⟨by unfold rg; omega, by unfold rg; omega, by unfold rg; omega⟩ (fun M9 eM9 => ?_)
  have hF10 : px_Fx M9 := by rw [eM9]; exact fx_cl hW hF6 (ns_3 hW hnb) (by decide)
  have hG11 : px_RG sh M9 := by rw [eM9]; exact rg_copy hG7 (ns_3 hW hmb) (ns_3 hW hnb)
  have hE12 : px_eo (px_nvA nb) M M9 := eo_tr hE8 (by rw [eM9]; exact eo_cl (by simp))
  refine rr_aload_n pf_94_48 rfl ?_
  refine rr_aload_n pf_94_49 rfl ?_
  refine rr_getI pf_94_50 po_94 pg_1_21 rfl (ns_z hW hmb) (by decide) ?_
  refine rr_putI pf_94_53 po_94 pg_1_21 (Or.inl rfl) rfl (ns_z hW hnb) (by decide) (rg_at hG11 (ns_z hW hmb) (by decide)) (fun M13 eM13 => ?_)
  have hE14 : px_eo (px_nvA nb) M M13 := eo_tr hE12 (by rw [eM13]; exact eo_up (by simp))
  have hF15 : px_Fx M13 := by rw [eM13]; exact fx_up hW hF10 (ns_z hW hnb) (Or.inl (by decide))
  have hG16 : px_RG sh M13 := by rw [eM13]; exact rg_up hG11 (ns_z hW hnb) (by decide) (rg_at hG11 (ns_z hW hmb) (by decide))
  refine rr_aload_n pf_94_56 rfl ?_
  refine rr_aload_n pf_94_57 rfl ?_
  refine rr_getI pf_94_58 po_94 pg_1_25 rfl (ns_z hW hmb) (by decide) ?_
  refine rr_putI pf_94_61 po_94 pg_1_25 (Or.inl rfl) rfl (ns_z hW hnb) (by decide) (rg_at hG16 (ns_z hW hmb) (by decide)) (fun M17 eM17 => ?_)
  have hE18 : px_eo (px_nvA nb) M M17 := eo_tr hE14 (by rw [eM17]; exact eo_up (by simp))
  have hF19 : px_Fx M17 := by rw [eM17]; exact fx_up hW hF15 (ns_z hW hnb) (Or.inl (by decide))
  have hG20 : px_RG sh M17 := by rw [eM17]; exact rg_up hG16 (ns_z hW hnb) (by decide) (rg_at hG16 (ns_z hW hmb) (by decide))
  have g4 : M17 nb 4 = M mb 4 := by rw [eM17, ask_up, if_pos rfl, hE14 mb (by simp <;> omega)]
  have g3 : M17 nb 3 = M mb 3 := by rw [eM17, ask_up, if_neg (by decide), eM13, ask_up, if_pos rfl, hE12 mb (by simp <;> omega)]
  have k1 : ∀ j, j < 48 → M17 (nb + 1) j = M (mb + 1) j := fun j hj => by rw [eM17, ask_ne (by omega), eM13, ask_ne (by omega), eM9, cp_ne (by omega), eM5, cp_ne (by omega), eM1, ask_cp, if_pos (by omega)]; congr 1; omega
  have k2 : ∀ j, j < 6 → M17 (nb + 2) j = M (mb + 2) j := fun j hj => by rw [eM17, ask_ne (by omega), eM13, ask_ne (by omega), eM9, cp_ne (by omega), eM5, ask_cp, if_pos (by omega), hE4 (mb + 2) (by simp <;> omega)]; congr 1; omega
  have k3 : ∀ j, j < 6 → M17 (nb + 3) j = M (mb + 3) j := fun j hj => by rw [eM17, ask_ne (by omega), eM13, ask_ne (by omega), eM9, ask_cp, if_pos (by omega), hE8 (mb + 3) (by simp <;> omega)]; congr 1; omega
  have gz : nnEq M17 M nb mb := by
    intro j hj
    unfold nn
    repeat' (refine ite_c (fun _ => ?_) (fun _ => ?_))
    all_goals first | exact g4 | exact g3 | exact k1 _ (by omega) | exact k2 _ (by omega) | exact k3 _ (by omega)
  refine rr_vret pf_94_64 pt_94 ⟨rfl, _, rfl, ⟨hF19, hG20, hE18⟩, gz⟩

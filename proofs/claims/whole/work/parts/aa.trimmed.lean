/-! a text, trimmed -/
theorem gz {sh : List (Nat × Nat)} {x : Nat × Nat} {k : Nat} (h : k = sh.length) : (sh ++ [x])[k]? = some x := by
  rw [h, List.getElem?_append_right (Nat.le_refl _), Nat.sub_self]; rfl
theorem W_len {sh : List (Nat × Nat)} (hW : px_W0 <+: sh) : 264 ≤ sh.length := by rw [← px_W0_len]; exact hW.length_le
abbrev shT (sh : List (Nat × Nat)) (sz cl : Nat) : List (Nat × Nat) := (((sh ++ [(6, 6)]) ++ [(10, sz)]) ++ [(10, sz)]) ++ [(10, 8 * cl)]
theorem shT_g {sh : List (Nat × Nat)} {sz cl : Nat} : (shT sh sz cl)[sh.length]? = some (6, 6) ∧ (shT sh sz cl)[sh.length + 1]? = some (10, sz) ∧ (shT sh sz cl)[sh.length + 2]? = some (10, sz) ∧ (shT sh sz cl)[sh.length + 3]? = some (10, 8 * cl) := ⟨ga (ga (ga (gz rfl))), ga (ga (gz (by simp))), ga (gz (by simp)), gz (by simp)⟩
theorem shT_o {sh : List (Nat × Nat)} {sz cl a : Nat} {x : Nat × Nat} (h : sh[a]? = some x) : (shT sh sz cl)[a]? = some x := ga (ga (ga (ga h)))
theorem ct_Text_trimmed {xs : Nat → Int} {L d : Nat} {sh : List (Nat × Nat)} {M0 : Nat → Nat → Int} (hd : 2 ≤ d) (hW : px_W0 <+: sh) (hF : px_Fx M0) {sz cl : Nat} (hsz : sz ≤ 400) (hcl : cl ≤ 12) (h3 : M0 201 3 = ((sz : Nat) : Int)) (h4 : M0 201 4 = ((cl : Nat) : Int)) (h5 : M0 201 5 = 0 ∨ M0 201 5 = 1) : ∃ M, ((∀ a, a < sh.length → M a = M0 a) ∧ (M sh.length 0 = ((sh.length + 1 : Nat) : Int) ∧ M sh.length 1 = ((sh.length + 2 : Nat) : Int) ∧ M sh.length 2 = ((sh.length + 3 : Nat) : Int)) ∧ (M sh.length 3 = ((sz : Nat) : Int) ∧ M sh.length 4 = ((cl : Nat) : Int) ∧ M sh.length 5 = M0 201 5 ∧ ∀ j, 6 ≤ j → rg (M sh.length j)) ∧ (∀ j, M (sh.length + 1) j = if j < sz then M0 202 j else 0) ∧ (∀ j, M (sh.length + 2) j = if j < sz then M0 203 j else 0) ∧ ∀ j, M (sh.length + 3) j = if j < 8 * cl then M0 204 j else 0) ∧ px_Cl xs L d 91 [.ref 201] (sh, M0) (some (.ref sh.length)) (shT sh sz cl, M) := by
  obtain ⟨d, rfl⟩ : ∃ e, d = e + 1 := ⟨d - 1, by omega⟩
  have hlen := W_len hW
  refine vc_n (Nat.le_of_ble_eq_true rfl) ?_
  show px_R xs L d 91 (0, [.ref 201, px_jk], [], (sh, M0)) _
  refine rr_new pf_91_0 po_91 pn_6_8 (by decide) rfl (fun M1 e1 => ?_)
  have f1 : ∀ a, a < sh.length → M1 a = M0 a := fun a ha => by rw [e1, cl_ne (by omega)]
  refine rr_dup pf_91_3 rfl ?_
  refine rr_aload_n pf_91_4 rfl ?_
  refine rr_getI pf_91_5 po_91 pg_6_7 rfl (ga (ws_201 hW)) (by decide) ?_
  refine rr_aload_n pf_91_8 rfl ?_
  refine rr_getI pf_91_9 po_91 pg_6_13 rfl (ga (ws_201 hW)) (by decide) ?_
  rw [f1 201 (by omega), h3, h4]
  have hl1 : (sh ++ [(6, 6)]).length = sh.length + 1 := by simp
  obtain ⟨M2, ⟨i1, ⟨i2, i3, i4⟩, ⟨i5, i6, i7⟩, i8, i9, i10, i11⟩, hc⟩ := ct_Text_init (xs := xs) (L := L) (d := d) (sh := sh ++ [(6, 6)]) (M0 := M1) (b := sh.length) (N := sz) (C := cl) (by omega) (gz rfl) hsz hcl
  rw [hl1] at i1 i2 i3 i4 i5 i6 i7
  have f2 : ∀ a, a < sh.length → M2 a = M0 a := fun a ha => (i1 a (by omega) (by omega)).trans (f1 a ha)
  refine rr_cI2 pf_91_12 po_91 pc_6_42 (Or.inl rfl) rfl hc ?_
  obtain ⟨g0, g1, g2, g3⟩ := shT_g (sh := sh) (sz := sz) (cl := cl)
  refine rr_astore_n pf_91_15 [.ref 201, .ref sh.length] (by decide) rfl ?_
  refine rr_aload_n pf_91_16 rfl ?_
  refine rr_getR (q := 202) pf_91_17 po_91 pg_6_26 rfl (shT_o (ws_201 hW)) (by decide) (by rw [f2 201 (by omega)]; exact wr_201_0 hF) ?_
  refine rr_iconst pf_91_20 ?_
  refine rr_aload_n pf_91_21 rfl ?_
  refine rr_getR (q := sh.length + 1) pf_91_22 po_91 pg_6_26 rfl g0 (by decide) i2 ?_
  refine rr_iconst pf_91_25 ?_
  refine rr_aload_n pf_91_26 rfl ?_
  refine rr_getI pf_91_27 po_91 pg_6_7 rfl (shT_o (ws_201 hW)) (by decide) ?_
  rw [f2 201 (by omega), h3]
  refine rr_copy pf_91_30 po_91 pc_6_45 rfl (shT_o (ws_202 hW)) g1 (by omega) (by omega) (by omega) (by omega) (by omega) (by unfold rg; omega) (fun M3 e3 => ?_)
  have f3 : ∀ a, a ≠ sh.length + 1 → M3 a = M2 a := fun a ha => by rw [e3, cp_ne ha]
  refine rr_aload_n pf_91_33 rfl ?_
  refine rr_getR (q := 203) pf_91_34 po_91 pg_6_30 rfl (shT_o (ws_201 hW)) (by decide) (by rw [f3 201 (by omega), f2 201 (by omega)]; exact wr_201_1 hF) ?_
  refine rr_iconst pf_91_37 ?_
  refine rr_aload_n pf_91_38 rfl ?_
  refine rr_getR (q := sh.length + 2) pf_91_39 po_91 pg_6_30 rfl g0 (by decide) (by rw [f3 _ (by omega)]; exact i3) ?_
  refine rr_iconst pf_91_42 ?_
  refine rr_aload_n pf_91_43 rfl ?_
  refine rr_getI pf_91_44 po_91 pg_6_7 rfl (shT_o (ws_201 hW)) (by decide) ?_
  rw [f3 201 (by omega), f2 201 (by omega), h3]
  refine rr_copy pf_91_47 po_91 pc_6_45 rfl (shT_o (ws_203 hW)) g2 (by omega) (by omega) (by omega) (by omega) (by omega) (by unfold rg; omega) (fun M4 e4 => ?_)
  have f4 : ∀ a, a ≠ sh.length + 2 → M4 a = M3 a := fun a ha => by rw [e4, cp_ne ha]
  refine rr_aload_n pf_91_50 rfl ?_
  refine rr_getR (q := 204) pf_91_51 po_91 pg_6_33 rfl (shT_o (ws_201 hW)) (by decide) (by rw [f4 201 (by omega), f3 201 (by omega), f2 201 (by omega)]; exact wr_201_2 hF) ?_
  refine rr_iconst pf_91_54 ?_
  refine rr_aload_n pf_91_55 rfl ?_
  refine rr_getR (q := sh.length + 3) pf_91_56 po_91 pg_6_33 rfl g0 (by decide) (by rw [f4 _ (by omega), f3 _ (by omega)]; exact i4) ?_
  refine rr_iconst pf_91_59 ?_
  refine rr_aload_n pf_91_60 rfl ?_
  refine rr_getR (q := sh.length + 3) pf_91_61 po_91 pg_6_33 rfl g0 (by decide) (by rw [f4 _ (by omega), f3 _ (by omega)]; exact i4) ?_
  refine rr_alen pf_91_64 g3 (by decide) ?_
  refine rr_copy pf_91_65 po_91 pc_6_45 rfl (shT_o (ws_204 hW)) g3 (by omega) (by omega) (by omega) (by omega) (by omega) (by unfold rg; omega) (fun M5 e5 => ?_)
  have f5 : ∀ a, a ≠ sh.length + 3 → M5 a = M4 a := fun a ha => by rw [e5, cp_ne ha]
  have fo : ∀ a, a < sh.length → M5 a = M0 a := fun a ha => by rw [f5 a (by omega), f4 a (by omega), f3 a (by omega), f2 a ha]
  have fn : M5 sh.length = M2 sh.length := by rw [f5 _ (by omega), f4 _ (by omega), f3 _ (by omega)]
  refine rr_aload_n pf_91_68 rfl ?_
  refine rr_aload_n pf_91_69 rfl ?_
  refine rr_getI pf_91_70 po_91 pg_6_7 rfl (shT_o (ws_201 hW)) (by decide) ?_
  rw [fo 201 (by omega), h3]
  refine rr_putI pf_91_73 po_91 pg_6_7 (Or.inl rfl) rfl g0 (by decide) (by unfold rg; omega) (fun M6 e6 => ?_)
  refine rr_aload_n pf_91_76 rfl ?_
  refine rr_aload_n pf_91_77 rfl ?_
  refine rr_getI pf_91_78 po_91 pg_6_13 rfl (shT_o (ws_201 hW)) (by decide) ?_
  rw [show M6 201 = M0 201 by rw [e6, ask_ne (by omega), fo 201 (by omega)], h4]
  refine rr_putI pf_91_81 po_91 pg_6_13 (Or.inl rfl) rfl g0 (by decide) (by unfold rg; omega) (fun M7 e7 => ?_)
  refine rr_aload_n pf_91_84 rfl ?_
  refine rr_aload_n pf_91_85 rfl ?_
  refine rr_getZ pf_91_86 po_91 pg_6_16 rfl (shT_o (ws_201 hW)) (by decide) ?_
  rw [show M7 201 = M0 201 by rw [e7, ask_ne (by omega), e6, ask_ne (by omega), fo 201 (by omega)]]
  refine rr_putZ pf_91_89 po_91 pg_6_16 (Or.inl rfl) rfl g0 (by decide) h5 (fun M8 e8 => ?_)
  refine rr_aload_n pf_91_92 rfl ?_
  have f8 : ∀ a, a ≠ sh.length → M8 a = M5 a := fun a ha => by rw [e8, ask_ne ha, e7, ask_ne ha, e6, ask_ne ha]
  refine rr_aret pf_91_93 pt_91 ⟨rfl, M8, rfl, fun a ha => (f8 a (by omega)).trans (fo a ha), ⟨?_, ?_, ?_⟩, ⟨?_, ?_, ?_, fun j hj => ?_⟩, fun j => ?_, fun j => ?_, fun j => ?_⟩
  · rw [e8, up_ne (by decide), e7, up_ne (by decide), e6, up_ne (by decide), fn]; exact i2
  · rw [e8, up_ne (by decide), e7, up_ne (by decide), e6, up_ne (by decide), fn]; exact i3
  · rw [e8, up_ne (by decide), e7, up_ne (by decide), e6, up_ne (by decide), fn]; exact i4
  · rw [e8, up_ne (by decide), e7, up_ne (by decide), e6, up_s]
  · rw [e8, up_ne (by decide), e7, up_s]
  · rw [e8, up_s]
  · rw [e8, up_ne (by omega), e7, up_ne (by omega), e6, up_ne (by omega), fn, i11 j hj, e1, cl_s]
    show rg (if px_ty 6 j = 2 then -1 else 0)
    split <;> (unfold rg; omega)
  · rw [f8 _ (by omega), f5 _ (by omega), f4 _ (by omega), e3, ask_cp, i5 j, f2 202 (by omega)]
    by_cases z : j < sz
    · rw [if_pos z, if_pos (by omega)]; congr 1; omega
    · rw [if_neg z, if_neg (by omega)]
  · rw [f8 _ (by omega), f5 _ (by omega), e4, ask_cp, f3 203 (by omega), f3 (sh.length + 2) (by omega), i6 j, f2 203 (by omega)]
    by_cases z : j < sz
    · rw [if_pos z, if_pos (by omega)]; congr 1; omega
    · rw [if_neg z, if_neg (by omega)]
  · rw [f8 _ (by omega), e5, ask_cp, f4 204 (by omega), f4 (sh.length + 3) (by omega), f3 204 (by omega), f3 (sh.length + 3) (by omega), i7 j, f2 204 (by omega)]
    by_cases z : j < 8 * cl
    · rw [if_pos z, if_pos (by omega)]; congr 1; omega
    · rw [if_neg z, if_neg (by omega)]

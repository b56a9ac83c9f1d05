/-! a new text -/
theorem ga {sh l : List (Nat × Nat)} {b : Nat} {x : Nat × Nat} (h : sh[b]? = some x) : (sh ++ l)[b]? = some x := by
  rw [List.getElem?_append_left (List.getElem?_eq_some_iff.mp h).1]; exact h
theorem cl_ne {M : Nat → Nat → Int} {a b : Nat} {f : Nat → Int} (h : b ≠ a) : px_cl M a f b = M b := by funext j; unfold px_cl; rw [if_neg h]
theorem cl_s {M : Nat → Nat → Int} {a : Nat} {f : Nat → Int} : px_cl M a f a = f := by funext j; unfold px_cl; rw [if_pos rfl]
theorem ct_Text_init {xs : Nat → Int} {L d : Nat} {sh : List (Nat × Nat)} {M0 : Nat → Nat → Int} (hd : 1 ≤ d) {b N C : Nat} (hb : sh[b]? = some (6, 6)) (hN : N ≤ 400) (hC : C ≤ 12) : ∃ M, ((∀ a, a ≠ b → a < sh.length → M a = M0 a) ∧ (M b 0 = ((sh.length : Nat) : Int) ∧ M b 1 = ((sh.length + 1 : Nat) : Int) ∧ M b 2 = ((sh.length + 2 : Nat) : Int)) ∧ ((∀ j, M sh.length j = 0) ∧ (∀ j, M (sh.length + 1) j = 0) ∧ ∀ j, M (sh.length + 2) j = 0) ∧ (M b 3 = 0 ∧ M b 4 = 0 ∧ M b 5 = 0 ∧ ∀ j, 6 ≤ j → M b j = M0 b j)) ∧ px_Cl xs L d 9 [.ref b, .int (iI ((N : Nat) : Int)), .int (iI ((C : Nat) : Int))] (sh, M0) none (((sh ++ [(10, N)]) ++ [(10, N)]) ++ [(10, 8 * C)], M) := by
  obtain ⟨d, rfl⟩ : ∃ e, d = e + 1 := ⟨d - 1, by omega⟩
  have hbl : b < sh.length := (List.getElem?_eq_some_iff.mp hb).1
  refine vc_n (Nat.le_of_ble_eq_true rfl) ?_
  show px_R xs L d 9 (0, [.ref b, .int (iI ((N : Nat) : Int)), .int (iI ((C : Nat) : Int))], [], (sh, M0)) _
  refine rr_aload_n pf_9_0 rfl ?_
  refine rr_objI pf_9_1 po_9 pc_6_1 (by decide) ?_
  refine rr_aload_n pf_9_4 rfl ?_
  refine rr_iconst pf_9_5 ?_
  refine rr_putI pf_9_6 po_9 pg_6_7 (Or.inr ⟨by decide +kernel, rfl⟩) rfl hb (by decide) (by unfold rg; omega) (fun M1 e1 => ?_)
  refine rr_aload_n pf_9_9 rfl ?_
  refine rr_iconst pf_9_10 ?_
  refine rr_putI pf_9_11 po_9 pg_6_13 (Or.inr ⟨by decide +kernel, rfl⟩) rfl hb (by decide) (by unfold rg; omega) (fun M2 e2 => ?_)
  refine rr_aload_n pf_9_14 rfl ?_
  refine rr_iconst pf_9_15 ?_
  refine rr_putZ pf_9_16 po_9 pg_6_16 (Or.inr ⟨by decide +kernel, rfl⟩) rfl hb (by decide) (Or.inl rfl) (fun M3 e3 => ?_)
  have hm : max (0 : Int) ((N : Nat) : Int) = ((N : Nat) : Int) := by omega
  have hm2 : max (0 : Int) ((C : Nat) : Int) * 8 = ((8 * C : Nat) : Int) := by omega
  refine rr_aload_n pf_9_19 rfl ?_
  refine rr_iconst pf_9_20 ?_
  refine rr_iload_n pf_9_21 rfl ?_
  refine rr_max pf_9_22 po_9 pc_6_20 rfl (by unfold rg; omega) (by unfold rg; omega) ?_
  rw [hm]
  refine rr_newa 10 pf_9_25 (Or.inl ⟨rfl, rfl⟩) (by omega) (fun M4 e4 => ?_)
  rw [Int.toNat_natCast]
  refine rr_putR pf_9_27 po_9 pg_6_26 (Or.inr ⟨by decide +kernel, rfl⟩) rfl (ga hb) (by decide) (fun M5 e5 => ?_)
  refine rr_aload_n pf_9_30 rfl ?_
  refine rr_iconst pf_9_31 ?_
  refine rr_iload_n pf_9_32 rfl ?_
  refine rr_max pf_9_33 po_9 pc_6_20 rfl (by unfold rg; omega) (by unfold rg; omega) ?_
  rw [hm]
  refine rr_newa 10 pf_9_36 (Or.inl ⟨rfl, rfl⟩) (by omega) (fun M6 e6 => ?_)
  rw [Int.toNat_natCast]
  refine rr_putR pf_9_38 po_9 pg_6_30 (Or.inr ⟨by decide +kernel, rfl⟩) rfl (ga (ga hb)) (by decide) (fun M7 e7 => ?_)
  refine rr_aload_n pf_9_41 rfl ?_
  refine rr_iconst pf_9_42 ?_
  refine rr_iload_n pf_9_43 rfl ?_
  refine rr_max pf_9_44 po_9 pc_6_20 rfl (by unfold rg; omega) (by unfold rg; omega) ?_
  refine rr_bipush pf_9_47 (by decide) ?_
  refine rr_imul pf_9_49 ?_
  rw [hm2]
  refine rr_newa 10 pf_9_50 (Or.inl ⟨rfl, rfl⟩) (by omega) (fun M8 e8 => ?_)
  rw [Int.toNat_natCast]
  refine rr_putR pf_9_52 po_9 pg_6_33 (Or.inr ⟨by decide +kernel, rfl⟩) rfl (ga (ga (ga hb))) (by decide) (fun M9 e9 => ?_)
  have l1 : (sh ++ [(10, N)]).length = sh.length + 1 := by simp
  have l2 : ((sh ++ [(10, N)]) ++ [(10, N)]).length = sh.length + 2 := by simp
  rw [l1] at e6 e7
  rw [l2] at e8 e9
  refine rr_vret pf_9_55 pt_9 ⟨rfl, M9, rfl, fun a h1 h2 => ?_, ⟨?_, ?_, ?_⟩, ⟨fun j => ?_, fun j => ?_, fun j => ?_⟩, ?_, ?_, ?_, fun j hj => ?_⟩
  · rw [e9, ask_ne h1, e8, cl_ne (by omega), e7, ask_ne h1, e6, cl_ne (by omega), e5, ask_ne h1, e4, cl_ne (by omega), e3, ask_ne h1, e2, ask_ne h1, e1, ask_ne h1]
  · rw [e9, up_ne (by decide), e8, cl_ne (by omega), e7, up_ne (by decide), e6, cl_ne (by omega), e5, up_s]
  · rw [e9, up_ne (by decide), e8, cl_ne (by omega), e7, up_s]
  · rw [e9, up_s]
  · rw [e9, ask_ne (by omega), e8, cl_ne (by omega), e7, ask_ne (by omega), e6, cl_ne (by omega), e5, ask_ne (by omega), e4, cl_s]
  · rw [e9, ask_ne (by omega), e8, cl_ne (by omega), e7, ask_ne (by omega), e6, cl_s]
  · rw [e9, ask_ne (by omega), e8, cl_s]
  · rw [e9, up_ne (by decide), e8, cl_ne (by omega), e7, up_ne (by decide), e6, cl_ne (by omega), e5, up_ne (by decide), e4, cl_ne (by omega), e3, up_ne (by decide), e2, up_ne (by decide), e1, up_s]
  · rw [e9, up_ne (by decide), e8, cl_ne (by omega), e7, up_ne (by decide), e6, cl_ne (by omega), e5, up_ne (by decide), e4, cl_ne (by omega), e3, up_ne (by decide), e2, up_s]
  · rw [e9, up_ne (by decide), e8, cl_ne (by omega), e7, up_ne (by decide), e6, cl_ne (by omega), e5, up_ne (by decide), e4, cl_ne (by omega), e3, up_s]
  · rw [e9, up_ne (by omega), e8, cl_ne (by omega), e7, up_ne (by omega), e6, cl_ne (by omega), e5, up_ne (by omega), e4, cl_ne (by omega), e3, up_ne (by omega), e2, up_ne (by omega), e1, up_ne (by omega)]

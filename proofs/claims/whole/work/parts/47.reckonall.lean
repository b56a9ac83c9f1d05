/-! the reference: reckonAll -/
def lwO (M : Nat → Nat → Int) (lb k : Nat) : Int := M 230 (98 + 2 * k + lb)
def lwA (M : Nat → Nat → Int) (lb k : Nat) : Int := M 230 (99 + 2 * k + lb)
theorem rkV_rl {op a b : Int} (ha : rg a) (hb : rg b) : rl (sp_rkV op a b) := by
  unfold sp_rkV
  have h1 := mul_rl ha hb
  have h2 := tdiv_rl (b := b) ha
  repeat' split
  all_goals first | assumption | (exact tmod_rl ha hb (by assumption)) | (simp only [rg, rl] at *; omega)
theorem ct_R_isListenerN {xs : Nat → Int} {L d : Nat} {sh : List (Nat × Nat)} {M : Nat → Nat → Int} (hd : 2 ≤ d) (hW : px_W0 <+: sh) (hF : px_Fx M) (hG : px_RG sh M) {v n : Int} (hv : rg v) (hn : M 230 1 = n) : px_Cl xs L d 192 [.ref 228, .int (iI v)] (sh, M) (some (.int (iI (bI (0 ≤ v ∧ v ≤ n - 1))))) (sh, M) := by
  subst hn
  exact ct_R_isListener hd hW hF hG hv
theorem lp_R_reckonAll_10 {xs : Nat → Int} {L d : Nat} {sh : List (Nat × Nat)} (hd : 2 ≤ d) (hW : px_W0 <+: sh) {M0 : Nat → Nat → Int}  {last : Nat} {lf : Int → Int → Option Int} {res : Option (List Int)} (hord : M0 228 20 = 0) {lb : Nat} (hlaw : M0 228 34 = ((lb : Nat) : Int)) (hlb : lb ≤ 4610) (hl : last ≤ 400) (hlf : ∀ op arg x, lf op arg = some x → (-1000000000 ≤ x ∧ x ≤ 1000000000) ∧ ((op = 0 ∧ x = arg) ∨ (1 ≤ op ∧ op ≤ 12 ∧ x = M0 246 op.toNat))) {fst : Nat} {Q : Option Value → px_H → Prop} (kx : ∀ (stk : List Int) (f : Nat) (n : Nat) (k : Nat) (v5 : Value) (v6 : Value) (M : Nat → Nat → Int), px_qk sh [228, 248] M0 M → (n ≤ 400) → (∀ j, j ≠ 38 → M 228 j = M0 228 j) → ((res = none ∧ M 228 38 = 1) ∨ (∃ s, res = some s ∧ M 228 38 = 0 ∧ lsOK (M 248) s ∧ n = s.length)) → px_R xs L d 191 (361, [.ref 228, .int (iI (((fst : Nat) : Int))), .int (iI (((last : Nat) : Int))), .int (iI (((n : Nat) : Int))), .int (iI (((k : Nat) : Int))), v5, v6], [], (sh, M)) Q)  : ∀ (m : Nat) (stk : List Int) (f : Nat) (n : Nat) (k : Nat) (v5 : Value) (v6 : Value) (M : Nat → Nat → Int), f = m → px_qk sh [228, 248] M0 M → (∀ j, j ≠ 38 → M 228 j = M0 228 j) → (n ≤ k) → (k ≤ last) → ((M 228 38 = 0 ∧ evS (lwO M0 lb) (lwA M0 lb) lf last f k stk = some res ∧ n = stk.length ∧ stkB stk ∧ lsOK (M 248) stk) ∨ (M 228 38 = 1 ∧ res = none)) → px_R xs L d 191 (10, [.ref 228, .int (iI (((fst : Nat) : Int))), .int (iI (((last : Nat) : Int))), .int (iI (((n : Nat) : Int))), .int (iI (((k : Nat) : Int))), v5, v6], [], (sh, M)) Q := by
  intro m
  induction m using Nat.strongRecOn with
  | _ m ih =>
    intro stk f n k v5 v6 M hm hq hq2 hnk hkl hev
    refine rr_iload pf_191_10 rfl ?_
    refine rr_iload_n pf_191_12 rfl ?_
    refine rr_icmp_ge 361 pf_191_13 (by decide) (by unfold rg; omega) (by unfold rg; omega) (fun c1 => ?_) (fun c1 => ?_)
    · exact kx stk f n k _ _ M hq (by omega) (hq2) (by
                  rcases hev with ⟨a, b⟩ | ⟨a, b⟩
                  · exact Or.inr ⟨stk, evS_last (by omega) b.1, a, b.2.2.2, b.2.1⟩
                  · exact Or.inl ⟨b, a⟩)
    · refine rr_aload_n pf_191_16 rfl ?_
      refine vr_getZ hq pf_191_17 po_191 pg_9_427 rfl (ws_228 hW) (by decide) (fun x2 hx2 rx2 => ?_)
      refine rr_if_ne 361 pf_191_20 (by decide) rx2 (fun c3 => ?_) (fun c3 => ?_)
      · exact kx stk f n k _ _ M hq (by omega) (hq2) (by
                      rcases hev with ⟨a, b⟩ | ⟨a, b⟩
                      · exfalso; omega
                      · exact Or.inl ⟨b, a⟩)
      · refine rr_aload_n pf_191_23 rfl ?_
        refine vr_getZ hq pf_191_24 po_191 pg_9_353 rfl (ws_228 hW) (by decide) (fun x4 hx4 rx4 => ?_)
        rw [hq2 20 (by decide), hord] at hx4
        refine rr_if_eq 40 pf_191_27 (by decide) rx4 (fun c5 => ?_) (fun c5 => ?_)
        · refine rr_aload_n pf_191_40 rfl ?_
          refine rr_getR pf_191_41 po_191 pg_9_13 rfl (ws_228 hW) (by decide) (wr_228_3 hq.1) ?_
          refine rr_aload_n pf_191_44 rfl ?_
          refine vr_getI hq pf_191_45 po_191 pg_9_430 rfl (ws_228 hW) (by decide) (fun x6 hx6 rx6 => ?_)
          rw [hq2 34 (by decide), hlaw] at hx6
          refine rr_bipush pf_191_48 (by decide) ?_
          refine rr_iadd pf_191_50 ?_
          refine rr_iconst pf_191_51 ?_
          refine rr_iload pf_191_52 rfl ?_
          refine rr_imul pf_191_54 ?_
          refine rr_iadd pf_191_55 ?_
          refine vr_iald (j := 98 + 2 * k + lb) hq pf_191_56 (ws_230 hW) (by omega) (by omega) (by decide) (fun x7 hx7 rx7 => ?_)
          rw [hq.2.2 230 (by decide)] at hx7
          refine rr_istore pf_191_57 (fun y => [.ref 228, .int (iI (((fst : Nat) : Int))), .int (iI (((last : Nat) : Int))), .int (iI (((n : Nat) : Int))), .int (iI (((k : Nat) : Int))), .int (iI (y)), v6]) (Nat.le_of_ble_eq_true rfl) (fun _ => rfl) (fun y8 hy8 => ?_)
          have ry8 : rg y8 := hy8 ▸ rx7
          refine rr_aload_n pf_191_59 rfl ?_
          refine vr_getZ hq pf_191_60 po_191 pg_9_353 rfl (ws_228 hW) (by decide) (fun x9 hx9 rx9 => ?_)
          rw [hq2 20 (by decide), hord] at hx9
          refine rr_if_eq 76 pf_191_63 (by decide) rx9 (fun c10 => ?_) (fun c10 => ?_)
          · refine rr_aload_n pf_191_76 rfl ?_
            refine rr_getR pf_191_77 po_191 pg_9_13 rfl (ws_228 hW) (by decide) (wr_228_3 hq.1) ?_
            refine rr_aload_n pf_191_80 rfl ?_
            refine vr_getI hq pf_191_81 po_191 pg_9_430 rfl (ws_228 hW) (by decide) (fun x11 hx11 rx11 => ?_)
            rw [hq2 34 (by decide), hlaw] at hx11
            refine rr_bipush pf_191_84 (by decide) ?_
            refine rr_iadd pf_191_86 ?_
            refine rr_iconst pf_191_87 ?_
            refine rr_iload pf_191_88 rfl ?_
            refine rr_imul pf_191_90 ?_
            refine rr_iadd pf_191_91 ?_
            refine rr_iconst pf_191_92 ?_
            refine rr_iadd pf_191_93 ?_
            refine vr_iald (j := 99 + 2 * k + lb) hq pf_191_94 (ws_230 hW) (by omega) (by omega) (by decide) (fun x12 hx12 rx12 => ?_)
            rw [hq.2.2 230 (by decide)] at hx12
            refine rr_istore pf_191_95 (fun y => [.ref 228, .int (iI (((fst : Nat) : Int))), .int (iI (((last : Nat) : Int))), .int (iI (((n : Nat) : Int))), .int (iI (((k : Nat) : Int))), .int (iI (y8)), .int (iI (y))]) (Nat.le_of_ble_eq_true rfl) (fun _ => rfl) (fun y13 hy13 => ?_)
            have ry13 : rg y13 := hy13 ▸ rx12
            have hop : y8 = (lwO M0 lb) k := by rw [hy8, hx7]; rfl
            have harg : y13 = (lwA M0 lb) k := by rw [hy13, hx12]; rfl
            obtain ⟨hb0, hev3, hn, hB, hS⟩ := hev.resolve_right (fun z => by omega)
            refine rr_iinc pf_191_97 rfl (fun y => [.ref 228, .int (iI (((fst : Nat) : Int))), .int (iI (((last : Nat) : Int))), .int (iI (((n : Nat) : Int))), .int (iI (y)), .int (iI (y8)), .int (iI (y13))]) (fun _ => rfl) (fun y14 hy14 => ?_)
            refine rr_iload pf_191_100 rfl ?_
            refine rr_bipush pf_191_102 (by decide) ?_
            refine rr_icmp_ge 219 pf_191_104 (by decide) ry8 (by unfold rg; omega) (fun c15 => ?_) (fun c15 => ?_)
            · refine rr_iload pf_191_219 rfl ?_
              refine rr_bipush pf_191_221 (by decide) ?_
              refine rr_icmp_ge 296 pf_191_223 (by decide) ry8 (by unfold rg; omega) (fun c16 => ?_) (fun c16 => ?_)
              · refine rr_iload pf_191_296 rfl ?_
                refine rr_bipush pf_191_298 (by decide) ?_
                refine rr_icmp_ne 324 pf_191_300 (by decide) ry8 (by unfold rg; omega) (fun c17 => ?_) (fun c17 => ?_)
                · have hj4 : y13 = y13 ∨ True := Or.inr trivial
                  obtain ⟨f2, x0, r0, rfl, rfl, hev4⟩ := evS_jmp (by omega) (by rw [← hop]; omega) hev3
                  rw [← hop, ← harg] at hev4
                  have hn2 : n = r0.length + 1 := hn
                  have hbx := stkB_h hB
                  refine rr_aload_n pf_191_324 rfl ?_
                  refine rr_getR pf_191_325 po_191 pg_9_113 rfl (ws_228 hW) (by decide) (wr_228_37 hq.1) ?_
                  refine rr_iload_n pf_191_328 rfl ?_
                  refine rr_iconst pf_191_329 ?_
                  refine rr_isub pf_191_330 ?_
                  refine vr_lald (j := r0.length) hq pf_191_331 (ws_248 hW) (by omega) (by omega) (by decide) (fun x18 hx18 rx18 => ?_)
                  rw [ls_top hS] at hx18; replace hx18 := hx18.symm; subst hx18
                  refine rr_iload pf_191_332 rfl ?_
                  refine rr_bipush pf_191_334 (by decide) ?_
                  refine rr_icmp_ne 343 pf_191_336 (by decide) ry8 (by unfold rg; omega) (fun c19 => ?_) (fun c19 => ?_)
                  · refine rr_lconst (w := 1) pf_191_343 rfl ?_
                    refine rr_lcmp pf_191_344 rx18 (by unfold rl; omega) ?_
                    refine rr_ifc_ne 355 pf_191_345 (by decide) (fun c20 => ?_) (fun c20 => ?_)
                    · have hev5 := (hev4.resolve_left (fun z => by have z1 := z.1; split at z1 <;> omega)).2
                      refine rr_iinc pf_191_355 rfl (fun y => [.ref 228, .int (iI (((fst : Nat) : Int))), .int (iI (((last : Nat) : Int))), .int (iI (y)), .int (iI (y14)), .int (iI (y8)), .int (iI (y13))]) (fun _ => rfl) (fun y21 hy21 => ?_)
                      refine rr_goto 10 pf_191_358 (by decide) ?_
                      obtain ⟨n22, hn22, rfl⟩ : ∃ zz : Nat, zz = y21.toNat ∧ y21 = ((zz : Nat) : Int) := ⟨y21.toNat, rfl, by omega⟩
                      obtain ⟨n23, hn23, rfl⟩ : ∃ zz : Nat, zz = 1 + k ∧ y14 = ((zz : Nat) : Int) := ⟨1 + k, rfl, by omega⟩
                      exact ih _ (by omega) r0 f2 n22 n23 _ _ M rfl hq (hq2) (by omega) (by omega) (by
                                                  left
                                                  refine ⟨hb0, ?_, ?_, ?_, ?_⟩
                                                  · rw [show n23 = k + 1 by omega]; exact hev5
                                                  · omega
                                                  · exact stkB_t hB
                                                  · exact ls_pop hS)
                    · obtain ⟨_, hj1, hj2, hev5⟩ := hev4.resolve_right (fun z => z.1 (by split <;> omega))
                      refine rr_iload pf_191_348 rfl ?_
                      refine rr_istore pf_191_350 (fun y => [.ref 228, .int (iI (((fst : Nat) : Int))), .int (iI (((last : Nat) : Int))), .int (iI (((n : Nat) : Int))), .int (iI (y)), .int (iI (y8)), .int (iI (y13))]) (Nat.le_of_ble_eq_true rfl) (fun _ => rfl) (fun y24 hy24 => ?_)
                      have ry24 : rg y24 := hy24 ▸ ry13
                      refine rr_goto 358 pf_191_352 (by decide) ?_
                      refine rr_goto 10 pf_191_358 (by decide) ?_
                      obtain ⟨n25, hn25, rfl⟩ : ∃ zz : Nat, zz = y24.toNat ∧ y24 = ((zz : Nat) : Int) := ⟨y24.toNat, rfl, by omega⟩
                      exact ih _ (by omega) (x0 :: r0) f2 n n25 _ _ M rfl hq (hq2) (by omega) (by omega) (by
                                                  left
                                                  refine ⟨hb0, ?_, ?_, ?_, ?_⟩
                                                  · rw [show n25 = (y13).toNat by omega]; exact hev5
                                                  · simp only [List.length_cons]; omega
                                                  · exact hB
                                                  · exact hS)
                  · refine rr_lconst (w := 0) pf_191_339 rfl ?_
                    refine rr_goto 344 pf_191_340 (by decide) ?_
                    refine rr_lcmp pf_191_344 rx18 (by unfold rl; omega) ?_
                    refine rr_ifc_ne 355 pf_191_345 (by decide) (fun c26 => ?_) (fun c26 => ?_)
                    · have hev5 := (hev4.resolve_left (fun z => by have z1 := z.1; split at z1 <;> omega)).2
                      refine rr_iinc pf_191_355 rfl (fun y => [.ref 228, .int (iI (((fst : Nat) : Int))), .int (iI (((last : Nat) : Int))), .int (iI (y)), .int (iI (y14)), .int (iI (y8)), .int (iI (y13))]) (fun _ => rfl) (fun y27 hy27 => ?_)
                      refine rr_goto 10 pf_191_358 (by decide) ?_
                      obtain ⟨n28, hn28, rfl⟩ : ∃ zz : Nat, zz = y27.toNat ∧ y27 = ((zz : Nat) : Int) := ⟨y27.toNat, rfl, by omega⟩
                      obtain ⟨n29, hn29, rfl⟩ : ∃ zz : Nat, zz = 1 + k ∧ y14 = ((zz : Nat) : Int) := ⟨1 + k, rfl, by omega⟩
                      exact ih _ (by omega) r0 f2 n28 n29 _ _ M rfl hq (hq2) (by omega) (by omega) (by
                                                  left
                                                  refine ⟨hb0, ?_, ?_, ?_, ?_⟩
                                                  · rw [show n29 = k + 1 by omega]; exact hev5
                                                  · omega
                                                  · exact stkB_t hB
                                                  · exact ls_pop hS)
                    · obtain ⟨_, hj1, hj2, hev5⟩ := hev4.resolve_right (fun z => z.1 (by split <;> omega))
                      refine rr_iload pf_191_348 rfl ?_
                      refine rr_istore pf_191_350 (fun y => [.ref 228, .int (iI (((fst : Nat) : Int))), .int (iI (((last : Nat) : Int))), .int (iI (((n : Nat) : Int))), .int (iI (y)), .int (iI (y8)), .int (iI (y13))]) (Nat.le_of_ble_eq_true rfl) (fun _ => rfl) (fun y30 hy30 => ?_)
                      have ry30 : rg y30 := hy30 ▸ ry13
                      refine rr_goto 358 pf_191_352 (by decide) ?_
                      refine rr_goto 10 pf_191_358 (by decide) ?_
                      obtain ⟨n31, hn31, rfl⟩ : ∃ zz : Nat, zz = y30.toNat ∧ y30 = ((zz : Nat) : Int) := ⟨y30.toNat, rfl, by omega⟩
                      exact ih _ (by omega) (x0 :: r0) f2 n n31 _ _ M rfl hq (hq2) (by omega) (by omega) (by
                                                  left
                                                  refine ⟨hb0, ?_, ?_, ?_, ?_⟩
                                                  · rw [show n31 = (y13).toNat by omega]; exact hev5
                                                  · simp only [List.length_cons]; omega
                                                  · exact hB
                                                  · exact hS)
                · obtain ⟨f2, x0, r0, rfl, rfl, hev4⟩ := evS_not (by omega) (by rw [← hop]; omega) hev3
                  have hn2 : n = r0.length + 1 := hn
                  have hbx := stkB_h hB
                  refine rr_aload_n pf_191_303 rfl ?_
                  refine rr_getR pf_191_304 po_191 pg_9_113 rfl (ws_228 hW) (by decide) (wr_228_37 hq.1) ?_
                  refine rr_iload_n pf_191_307 rfl ?_
                  refine rr_iconst pf_191_308 ?_
                  refine rr_isub pf_191_309 ?_
                  refine rr_lconst (w := 1) pf_191_310 rfl ?_
                  refine rr_aload_n pf_191_311 rfl ?_
                  refine rr_getR pf_191_312 po_191 pg_9_113 rfl (ws_228 hW) (by decide) (wr_228_37 hq.1) ?_
                  refine rr_iload_n pf_191_315 rfl ?_
                  refine rr_iconst pf_191_316 ?_
                  refine rr_isub pf_191_317 ?_
                  refine vr_lald (j := r0.length) hq pf_191_318 (ws_248 hW) (by omega) (by omega) (by decide) (fun x32 hx32 rx32 => ?_)
                  rw [ls_top hS] at hx32; replace hx32 := hx32.symm; subst hx32
                  refine rr_lsub pf_191_319 ?_
                  refine vr_last (j := r0.length) hW hq pf_191_320 (ws_248 hW) (by omega) (by omega) (by decide) (by unfold rl; omega) (by decide) (fun M33 eM33 q34 => ?_)
                  refine rr_goto 358 pf_191_321 (by decide) ?_
                  refine rr_goto 10 pf_191_358 (by decide) ?_
                  obtain ⟨n35, hn35, rfl⟩ : ∃ zz : Nat, zz = 1 + k ∧ y14 = ((zz : Nat) : Int) := ⟨1 + k, rfl, by omega⟩
                  exact ih _ (by omega) ((1 - x0) :: r0) f2 n n35 _ _ M33 rfl q34 (by
                                          intro j hj
                                          rw [eM33, ask_ne (by decide)]
                                          exact hq2 j hj) (by omega) (by omega) (by
                                          left
                                          refine ⟨by rw [eM33, ask_ne (by decide)]; exact hb0, ?_, ?_, ?_, ?_⟩
                                          · rw [show n35 = k + 1 by omega]; exact hev4
                                          · simp only [List.length_cons]; omega
                                          · exact stkB_c (by omega) (stkB_t hB)
                                          · refine ls_push (ls_pop hS) ?_ ?_
                                            · rw [eM33, up_s]
                                            · intro j hj; rw [eM33, up_ne (by omega)])
              · obtain ⟨f2, y0, x0, r0, rfl, rfl, hev4⟩ := evS_bin (by omega) (by rw [← hop]; omega) (by rw [← hop]; omega) hev3
                rw [← hop] at hev4
                have hn2 : n = r0.length + 2 := hn
                have hby := stkB_h hB
                have hbx := stkB_h (stkB_t hB)
                refine rr_iinc pf_191_226 rfl (fun y => [.ref 228, .int (iI (((fst : Nat) : Int))), .int (iI (((last : Nat) : Int))), .int (iI (y)), .int (iI (y14)), .int (iI (y8)), .int (iI (y13))]) (fun _ => rfl) (fun y36 hy36 => ?_)
                refine rr_aload_n pf_191_229 rfl ?_
                refine rr_getR pf_191_230 po_191 pg_9_113 rfl (ws_228 hW) (by decide) (wr_228_37 hq.1) ?_
                refine rr_iload_n pf_191_233 rfl ?_
                refine rr_iconst pf_191_234 ?_
                refine rr_isub pf_191_235 ?_
                refine rr_aload_n pf_191_236 rfl ?_
                refine rr_iload pf_191_237 rfl ?_
                refine rr_aload_n pf_191_239 rfl ?_
                refine rr_getR pf_191_240 po_191 pg_9_113 rfl (ws_228 hW) (by decide) (wr_228_37 hq.1) ?_
                refine rr_iload_n pf_191_243 rfl ?_
                refine rr_iconst pf_191_244 ?_
                refine rr_isub pf_191_245 ?_
                refine vr_lald (j := r0.length) hq pf_191_246 (ws_248 hW) (by omega) (by omega) (by decide) (fun x37 hx37 rx37 => ?_)
                rw [ls_top (ls_pop hS)] at hx37; replace hx37 := hx37.symm; subst hx37
                refine rr_aload_n pf_191_247 rfl ?_
                refine rr_getR pf_191_248 po_191 pg_9_113 rfl (ws_228 hW) (by decide) (wr_228_37 hq.1) ?_
                refine rr_iload_n pf_191_251 rfl ?_
                refine vr_lald (j := r0.length + 1) hq pf_191_252 (ws_248 hW) (by omega) (by omega) (by decide) (fun x38 hx38 rx38 => ?_)
                rw [show r0.length + 1 = (x0 :: r0).length from rfl, ls_top hS] at hx38; replace hx38 := hx38.symm; subst hx38
                obtain ⟨M39, ⟨kq40, eM39⟩, hcM39⟩ := ct_R_reckon (xs := xs) (L := L) (d := d) (op := y8) (a := x0) (b := y0) (by omega) hW hq.1 hq.2.1 (by unfold rg; omega) (by unfold rg; omega) (by unfold rg; omega)
                have q40 := qk_trm hq kq40 (by decide)
                refine rr_cV3 pf_191_253 po_191 pc_9_433 (ws_228 hW) po_193 (by decide) rfl hcM39 ?_
                refine vr_last (j := r0.length) hW q40 pf_191_256 (ws_248 hW) (by omega) (by omega) (by decide) (rkV_rl (by unfold rg; omega) (by unfold rg; omega)) (by decide) (fun M41 eM41 q42 => ?_)
                refine rr_aload_n pf_191_257 rfl ?_
                refine rr_aload_n pf_191_258 rfl ?_
                refine vr_getZ q42 pf_191_259 po_191 pg_9_427 rfl (ws_228 hW) (by decide) (fun x43 hx43 rx43 => ?_)
                have hb6 : x43 = if (y8 = 23 ∨ y8 = 24) ∧ y0 = 0 then 1 else 0 := by
                  rw [hx43, eM41, ask_ne (by decide), eM39]
                  by_cases z1 : y8 = 23 ∨ y8 = 24
                  · rw [if_pos z1, up_s]; by_cases z2 : y0 = 0
                    · rw [if_pos (by omega), if_pos ⟨z1, z2⟩]
                    · rw [if_neg (by omega), if_neg (fun z => z2 z.2)]
                  · rw [if_neg z1, if_neg (fun z => z1 z.1)]; exact hb0
                refine rr_if_ne 285 pf_191_262 (by decide) rx43 (fun c44 => ?_) (fun c44 => ?_)
                · refine rr_iconst pf_191_285 ?_
                  refine rr_goto 290 pf_191_286 (by decide) ?_
                  refine vr_putZ hW q42 pf_191_290 po_191 pg_9_427 (Or.inl rfl) rfl (ws_228 hW) (by decide) (by omega) (by decide) (fun M45 eM45 q46 => ?_)
                  refine rr_goto 358 pf_191_293 (by decide) ?_
                  refine rr_goto 10 pf_191_358 (by decide) ?_
                  obtain ⟨n47, hn47, rfl⟩ : ∃ zz : Nat, zz = y36.toNat ∧ y36 = ((zz : Nat) : Int) := ⟨y36.toNat, rfl, by omega⟩
                  obtain ⟨n48, hn48, rfl⟩ : ∃ zz : Nat, zz = 1 + k ∧ y14 = ((zz : Nat) : Int) := ⟨1 + k, rfl, by omega⟩
                  exact ih _ (by omega) (sp_rkV y8 x0 y0 :: r0) f2 n47 n48 _ _ M45 rfl q46 (by
                                          intro j hj
                                          rw [eM45, up_ne hj, eM41, ask_ne (by decide), eM39]
                                          split
                                          · rw [up_ne hj]; exact hq2 j hj
                                          · exact hq2 j hj) (by omega) (by omega) (by
                                          right
                                          refine ⟨by rw [eM45, up_s], ?_⟩
                                          rcases hev4 with ⟨_, z⟩ | ⟨z, _⟩
                                          · exact z
                                          · exfalso; apply z; refine Or.inl (Decidable.byContradiction (fun z2 => ?_)); rw [if_neg z2] at hb6; omega)
                · refine rr_aload_n pf_191_265 rfl ?_
                  refine rr_getR pf_191_266 po_191 pg_9_113 rfl (ws_228 hW) (by decide) (wr_228_37 q42.1) ?_
                  refine rr_iload_n pf_191_269 rfl ?_
                  refine rr_iconst pf_191_270 ?_
                  refine rr_isub pf_191_271 ?_
                  refine vr_lald (j := r0.length) q42 pf_191_272 (ws_248 hW) (by omega) (by omega) (by decide) (fun x49 hx49 rx49 => ?_)
                  rw [eM41, up_s] at hx49
                  refine rr_ldc2_w pf_191_273 po_191 pl_9_437 ?_
                  refine rr_ldc2_w pf_191_276 po_191 pl_9_439 ?_
                  refine rr_cS3 pf_191_279 po_191 pc_9_197 (by decide) rfl (ct_R_in (by omega) rx49 (by unfold rl; omega) (by unfold rl; omega)) ?_
                  refine rr_ifb_ne 289 pf_191_282 (by decide) (fun c50 => ?_) (fun c50 => ?_)
                  · refine rr_iconst pf_191_289 ?_
                    refine vr_putZ hW q42 pf_191_290 po_191 pg_9_427 (Or.inl rfl) rfl (ws_228 hW) (by decide) (by omega) (by decide) (fun M51 eM51 q52 => ?_)
                    refine rr_goto 358 pf_191_293 (by decide) ?_
                    refine rr_goto 10 pf_191_358 (by decide) ?_
                    obtain ⟨n53, hn53, rfl⟩ : ∃ zz : Nat, zz = y36.toNat ∧ y36 = ((zz : Nat) : Int) := ⟨y36.toNat, rfl, by omega⟩
                    obtain ⟨n54, hn54, rfl⟩ : ∃ zz : Nat, zz = 1 + k ∧ y14 = ((zz : Nat) : Int) := ⟨1 + k, rfl, by omega⟩
                    exact ih _ (by omega) (sp_rkV y8 x0 y0 :: r0) f2 n53 n54 _ _ M51 rfl q52 (by
                                              intro j hj
                                              rw [eM51, up_ne hj, eM41, ask_ne (by decide), eM39]
                                              split
                                              · rw [up_ne hj]; exact hq2 j hj
                                              · exact hq2 j hj) (by omega) (by omega) (by
                                              left
                                              refine ⟨by rw [eM51, up_s], ?_, ?_, ?_, ?_⟩
                                              · rw [show n54 = k + 1 by omega]
                                                rcases hev4 with ⟨z, _⟩ | ⟨_, z⟩
                                                · exfalso; rcases z with z | z
                                                  · rw [if_pos z] at hb6; omega
                                                  · omega
                                                · exact z
                                              · simp only [List.length_cons]; omega
                                              · exact stkB_c (by omega) (stkB_t (stkB_t hB))
                                              · refine ls_push (ls_pop (ls_pop hS)) ?_ ?_
                                                · rw [eM51, ask_ne (by decide), eM41, up_s]
                                                · intro j hj; rw [eM51, ask_ne (by decide), eM41, up_ne (by omega), eM39]; split <;> first | rfl | rw [ask_ne (by decide)])
                  · refine rr_iconst pf_191_285 ?_
                    refine rr_goto 290 pf_191_286 (by decide) ?_
                    refine vr_putZ hW q42 pf_191_290 po_191 pg_9_427 (Or.inl rfl) rfl (ws_228 hW) (by decide) (by omega) (by decide) (fun M55 eM55 q56 => ?_)
                    refine rr_goto 358 pf_191_293 (by decide) ?_
                    refine rr_goto 10 pf_191_358 (by decide) ?_
                    obtain ⟨n57, hn57, rfl⟩ : ∃ zz : Nat, zz = y36.toNat ∧ y36 = ((zz : Nat) : Int) := ⟨y36.toNat, rfl, by omega⟩
                    obtain ⟨n58, hn58, rfl⟩ : ∃ zz : Nat, zz = 1 + k ∧ y14 = ((zz : Nat) : Int) := ⟨1 + k, rfl, by omega⟩
                    exact ih _ (by omega) (sp_rkV y8 x0 y0 :: r0) f2 n57 n58 _ _ M55 rfl q56 (by
                                              intro j hj
                                              rw [eM55, up_ne hj, eM41, ask_ne (by decide), eM39]
                                              split
                                              · rw [up_ne hj]; exact hq2 j hj
                                              · exact hq2 j hj) (by omega) (by omega) (by
                                              right
                                              refine ⟨by rw [eM55, up_s], ?_⟩
                                              rcases hev4 with ⟨_, z⟩ | ⟨z, _⟩
                                              · exact z
                                              · exfalso; apply z; omega)
            · obtain ⟨f2, x0, rfl, hlf0, hev4⟩ := evS_leaf (by omega) (by rw [← hop]; omega) hev3
              have hlx := hlf _ _ _ hlf0
              rw [← hop, ← harg] at hlx
              refine rr_aload_n pf_191_107 rfl ?_
              refine rr_getR pf_191_108 po_191 pg_9_113 rfl (ws_228 hW) (by decide) (wr_228_37 hq.1) ?_
              refine rr_iload_n pf_191_111 rfl ?_
              refine rr_iload pf_191_112 rfl ?_
              refine rr_if_ne 123 pf_191_114 (by decide) ry8 (fun c59 => ?_) (fun c59 => ?_)
              · refine rr_aload_n pf_191_123 rfl ?_
                refine vr_getZ hq pf_191_124 po_191 pg_9_353 rfl (ws_228 hW) (by decide) (fun x60 hx60 rx60 => ?_)
                rw [hq2 20 (by decide), hord] at hx60
                refine rr_if_ne 140 pf_191_127 (by decide) rx60 (fun c61 => ?_) (fun c61 => ?_)
                · exfalso; omega
                · refine rr_aload_n pf_191_130 rfl ?_
                  refine rr_getR pf_191_131 po_191 pg_9_107 rfl (ws_228 hW) (by decide) (wr_228_35 hq.1) ?_
                  refine rr_iload pf_191_134 rfl ?_
                  refine vr_lald (j := (y8).toNat) hq pf_191_136 (ws_246 hW) (by omega) (by omega) (by decide) (fun x62 hx62 rx62 => ?_)
                  rw [hq.2.2 246 (by decide)] at hx62
                  refine rr_goto 212 pf_191_137 (by decide) ?_
                  refine vr_last (j := n) hW hq pf_191_212 (ws_248 hW) (by omega) (by omega) (by decide) rx62 (by decide) (fun M63 eM63 q64 => ?_)
                  refine rr_iinc pf_191_213 rfl (fun y => [.ref 228, .int (iI (((fst : Nat) : Int))), .int (iI (((last : Nat) : Int))), .int (iI (y)), .int (iI (y14)), .int (iI (y8)), .int (iI (y13))]) (fun _ => rfl) (fun y65 hy65 => ?_)
                  refine rr_goto 358 pf_191_216 (by decide) ?_
                  refine rr_goto 10 pf_191_358 (by decide) ?_
                  obtain ⟨n66, hn66, rfl⟩ : ∃ zz : Nat, zz = 1 + n ∧ y65 = ((zz : Nat) : Int) := ⟨1 + n, rfl, by omega⟩
                  obtain ⟨n67, hn67, rfl⟩ : ∃ zz : Nat, zz = 1 + k ∧ y14 = ((zz : Nat) : Int) := ⟨1 + k, rfl, by omega⟩
                  exact ih _ (by omega) (x0 :: stk) f2 n66 n67 _ _ M63 rfl q64 (by
                                          intro j hj
                                          rw [eM63, ask_ne (by decide)]
                                          exact hq2 j hj) (by omega) (by omega) (by
                                          left
                                          refine ⟨by rw [eM63, ask_ne (by decide)]; exact hb0, ?_, ?_, ?_, ?_⟩
                                          · rw [show n67 = k + 1 by omega]; exact hev4
                                          · simp only [List.length_cons]; omega
                                          · exact stkB_c (by omega) hB
                                          · refine ls_push hS ?_ ?_
                                            · rw [eM63, ← hn, up_s]; omega
                                            · intro j hj; rw [eM63, up_ne (by omega)])
              · refine rr_iload pf_191_117 rfl ?_
                refine rr_i2l pf_191_119 ry13 ?_
                refine rr_goto 212 pf_191_120 (by decide) ?_
                refine vr_last (j := n) hW hq pf_191_212 (ws_248 hW) (by omega) (by omega) (by decide) (rl_rg ry13) (by decide) (fun M68 eM68 q69 => ?_)
                refine rr_iinc pf_191_213 rfl (fun y => [.ref 228, .int (iI (((fst : Nat) : Int))), .int (iI (((last : Nat) : Int))), .int (iI (y)), .int (iI (y14)), .int (iI (y8)), .int (iI (y13))]) (fun _ => rfl) (fun y70 hy70 => ?_)
                refine rr_goto 358 pf_191_216 (by decide) ?_
                refine rr_goto 10 pf_191_358 (by decide) ?_
                obtain ⟨n71, hn71, rfl⟩ : ∃ zz : Nat, zz = 1 + n ∧ y70 = ((zz : Nat) : Int) := ⟨1 + n, rfl, by omega⟩
                obtain ⟨n72, hn72, rfl⟩ : ∃ zz : Nat, zz = 1 + k ∧ y14 = ((zz : Nat) : Int) := ⟨1 + k, rfl, by omega⟩
                exact ih _ (by omega) (x0 :: stk) f2 n71 n72 _ _ M68 rfl q69 (by
                                      intro j hj
                                      rw [eM68, ask_ne (by decide)]
                                      exact hq2 j hj) (by omega) (by omega) (by
                                      left
                                      refine ⟨by rw [eM68, ask_ne (by decide)]; exact hb0, ?_, ?_, ?_, ?_⟩
                                      · rw [show n72 = k + 1 by omega]; exact hev4
                                      · simp only [List.length_cons]; omega
                                      · exact stkB_c (by omega) hB
                                      · refine ls_push hS ?_ ?_
                                        · rw [eM68, ← hn, up_s]; omega
                                        · intro j hj; rw [eM68, up_ne (by omega)])
          · exfalso; omega
        · exfalso; omega
theorem ct_R_reckonAll {xs : Nat → Int} {L d : Nat} {sh : List (Nat × Nat)} {M0 : Nat → Nat → Int} (hd : 3 ≤ d) (hW : px_W0 <+: sh) (hF : px_Fx M0) (hG : px_RG sh M0)  {fst last : Nat} {f0 : Nat} {lf : Int → Int → Option Int} {res : Option (List Int)} (hord : M0 228 20 = 0) {lb : Nat} (hlaw : M0 228 34 = ((lb : Nat) : Int)) (hlb : lb ≤ 4610) (hl : last ≤ 400) (hfl : fst ≤ last) (hlf : ∀ op arg x, lf op arg = some x → (-1000000000 ≤ x ∧ x ≤ 1000000000) ∧ ((op = 0 ∧ x = arg) ∨ (1 ≤ op ∧ op ≤ 12 ∧ x = M0 246 op.toNat))) (hev0 : evS (lwO M0 lb) (lwA M0 lb) lf last f0 fst [] = some res) : ∃ M, (px_qk sh [228, 248] M0 M ∧ ((res = none ∧ M 228 38 = 1) ∨ (∃ s, res = some s ∧ M 228 38 = 0 ∧ M 228 39 = s.reverse.getD 0 0)) ∧ (∀ j, j ≠ 38 → j ≠ 39 → M 228 j = M0 228 j)) ∧ px_Cl xs L d 191 [.ref 228, .int (iI (((fst : Nat) : Int))), .int (iI (((last : Nat) : Int)))] (sh, M0) (none) (sh, M) := by
  obtain ⟨d, rfl⟩ : ∃ e, d = e + 1 := ⟨d - 1, by omega⟩
  have q0 : px_qk sh [228, 248] M0 M0 := ⟨hF, hG, eo_rf⟩
  refine vc_n (Nat.le_of_ble_eq_true rfl) ?_
  show px_R xs L d 191 (0, [.ref 228, .int (iI (((fst : Nat) : Int))), .int (iI (((last : Nat) : Int))), px_jk, px_jk, px_jk, px_jk], [], (sh, M0)) (fun r h' => r = none ∧ ∃ M', h' = (sh, M') ∧ px_qk sh [228, 248] M0 M' ∧ ((res = none ∧ M' 228 38 = 1) ∨ (∃ s, res = some s ∧ M' 228 38 = 0 ∧ M' 228 39 = s.reverse.getD 0 0)) ∧ (∀ j, j ≠ 38 → j ≠ 39 → M' 228 j = M0 228 j))
  refine rr_aload_n pf_191_0 rfl ?_
  refine rr_iconst pf_191_1 ?_
  refine vr_putZ hW q0 pf_191_2 po_191 pg_9_427 (Or.inl rfl) rfl (ws_228 hW) (by decide) (by omega) (by decide) (fun M1 eM1 q2 => ?_)
  refine rr_iconst pf_191_5 ?_
  refine rr_istore_n pf_191_6 (fun y => [.ref 228, .int (iI (((fst : Nat) : Int))), .int (iI (((last : Nat) : Int))), .int (iI (y)), px_jk, px_jk, px_jk]) (Nat.le_of_ble_eq_true rfl) (fun _ => rfl) (fun y3 hy3 => ?_)
  refine rr_iload_n pf_191_7 rfl ?_
  refine rr_istore pf_191_8 (fun y => [.ref 228, .int (iI (((fst : Nat) : Int))), .int (iI (((last : Nat) : Int))), .int (iI (y3)), .int (iI (y)), px_jk, px_jk]) (Nat.le_of_ble_eq_true rfl) (fun _ => rfl) (fun y4 hy4 => ?_)
  obtain ⟨n5, hn5, rfl⟩ : ∃ zz : Nat, zz = 0 ∧ y3 = ((zz : Nat) : Int) := ⟨0, rfl, by omega⟩
  obtain ⟨n6, hn6, rfl⟩ : ∃ zz : Nat, zz = fst ∧ y4 = ((zz : Nat) : Int) := ⟨fst, rfl, by omega⟩
  refine lp_R_reckonAll_10 (xs := xs) (L := L) (d := d) (by omega) hW hord hlaw hlb hl hlf (fun stk_7 f_8 n_9 k_10 v13 v14 M11 q12 xn_M11 xq2_M11 xev_M11 => ?_) _ ([]) f0 n5 n6 _ _ M1 rfl q2 (by intro j hj; rw [eM1, up_ne hj]) (by omega) (by omega) (by left; refine ⟨by rw [eM1, up_s], ?_, by simp only [List.length_nil]; omega, (fun x hx => by cases hx), (fun j hj => by simp at hj)⟩; rw [show n6 = fst by omega]; exact hev0)
  refine rr_aload_n pf_191_361 rfl ?_
  refine rr_iload_n pf_191_362 rfl ?_
  refine rr_if_le 375 pf_191_363 (by decide) (by unfold rg; omega) (fun c15 => ?_) (fun c15 => ?_)
  · refine rr_lconst (w := 0) pf_191_375 rfl ?_
    refine vr_putL hW q12 pf_191_376 po_191 pg_9_441 (Or.inl rfl) rfl (ws_228 hW) (by decide) (by unfold rl; omega) (by decide) (fun M16 eM16 q17 => ?_)
    refine rr_vret pf_191_379 pt_191 ⟨rfl, M16, rfl, q17, by
        rcases xev_M11 with ⟨a, b⟩ | ⟨s, a, b, c, e⟩
        · exact Or.inl ⟨a, by rw [eM16, up_ne (by decide)]; exact b⟩
        · refine Or.inr ⟨s, a, by rw [eM16, up_ne (by decide)]; exact b, ?_⟩
          rw [eM16, up_s]
          rw [show s = [] from List.length_eq_zero_iff.mp (by omega)]; rfl, by
        intro j h1 h2
        rw [eM16, up_ne h2]
        exact xq2_M11 j h1⟩
  · refine rr_aload_n pf_191_366 rfl ?_
    refine rr_getR pf_191_367 po_191 pg_9_113 rfl (ws_228 hW) (by decide) (wr_228_37 q12.1) ?_
    refine rr_iconst pf_191_370 ?_
    refine vr_lald (j := 0) q12 pf_191_371 (ws_248 hW) (by omega) (by omega) (by decide) (fun x18 hx18 rx18 => ?_)
    refine rr_goto 376 pf_191_372 (by decide) ?_
    refine vr_putL hW q12 pf_191_376 po_191 pg_9_441 (Or.inl rfl) rfl (ws_228 hW) (by decide) rx18 (by decide) (fun M19 eM19 q20 => ?_)
    refine rr_vret pf_191_379 pt_191 ⟨rfl, M19, rfl, q20, by
        rcases xev_M11 with ⟨a, b⟩ | ⟨s, a, b, c, e⟩
        · exact Or.inl ⟨a, by rw [eM19, up_ne (by decide)]; exact b⟩
        · refine Or.inr ⟨s, a, by rw [eM19, up_ne (by decide)]; exact b, ?_⟩
          rw [eM19, up_s]
          rw [hx18, c 0 (by omega)], by
        intro j h1 h2
        rw [eM19, up_ne h2]
        exact xq2_M11 j h1⟩
theorem lp_R_reckonAllO_10 {xs : Nat → Int} {L d : Nat} {sh : List (Nat × Nat)} (hd : 2 ≤ d) (hW : px_W0 <+: sh) {M0 : Nat → Nat → Int}  {last : Nat} {lf : Int → Int → Option Int} {res : Option (List Int)} (hord : M0 228 20 = 1) (hl : last ≤ 400) (hlf : ∀ op arg x, lf op arg = some x → (-1000000000 ≤ x ∧ x ≤ 1000000000) ∧ ((op = 0 ∧ x = arg) ∨ (1 ≤ op ∧ op ≤ 5 ∧ x = M0 247 op.toNat) ∨ (6 ≤ op ∧ op ≤ 8 ∧ 0 ≤ arg ∧ arg ≤ 15 ∧ x = M0 230 (9 + 3 * arg + op - 6).toNat) ∨ (op = 9 ∧ 0 ≤ arg ∧ arg ≤ 5 ∧ ((arg < M0 230 1 ∧ x = M0 230 (63 + arg).toNat) ∨ (M0 230 1 ≤ arg ∧ x = -1))))) {fst : Nat} {Q : Option Value → px_H → Prop} (kx : ∀ (stk : List Int) (f : Nat) (n : Nat) (k : Nat) (v5 : Value) (v6 : Value) (M : Nat → Nat → Int), px_qk sh [228, 248] M0 M → (n ≤ 400) → (∀ j, j ≠ 38 → M 228 j = M0 228 j) → ((res = none ∧ M 228 38 = 1) ∨ (∃ s, res = some s ∧ M 228 38 = 0 ∧ lsOK (M 248) s ∧ n = s.length)) → px_R xs L d 191 (361, [.ref 228, .int (iI (((fst : Nat) : Int))), .int (iI (((last : Nat) : Int))), .int (iI (((n : Nat) : Int))), .int (iI (((k : Nat) : Int))), v5, v6], [], (sh, M)) Q)  : ∀ (m : Nat) (stk : List Int) (f : Nat) (n : Nat) (k : Nat) (v5 : Value) (v6 : Value) (M : Nat → Nat → Int), f = m → px_qk sh [228, 248] M0 M → (∀ j, j ≠ 38 → M 228 j = M0 228 j) → (n ≤ k) → (k ≤ last) → ((M 228 38 = 0 ∧ evS (M0 239) (M0 240) lf last f k stk = some res ∧ n = stk.length ∧ stkB stk ∧ lsOK (M 248) stk) ∨ (M 228 38 = 1 ∧ res = none)) → px_R xs L d 191 (10, [.ref 228, .int (iI (((fst : Nat) : Int))), .int (iI (((last : Nat) : Int))), .int (iI (((n : Nat) : Int))), .int (iI (((k : Nat) : Int))), v5, v6], [], (sh, M)) Q := by
  intro m
  induction m using Nat.strongRecOn with
  | _ m ih =>
    intro stk f n k v5 v6 M hm hq hq2 hnk hkl hev
    refine rr_iload pf_191_10 rfl ?_
    refine rr_iload_n pf_191_12 rfl ?_
    refine rr_icmp_ge 361 pf_191_13 (by decide) (by unfold rg; omega) (by unfold rg; omega) (fun c1 => ?_) (fun c1 => ?_)
    · exact kx stk f n k _ _ M hq (by omega) (hq2) (by
                  rcases hev with ⟨a, b⟩ | ⟨a, b⟩
                  · exact Or.inr ⟨stk, evS_last (by omega) b.1, a, b.2.2.2, b.2.1⟩
                  · exact Or.inl ⟨b, a⟩)
    · refine rr_aload_n pf_191_16 rfl ?_
      refine vr_getZ hq pf_191_17 po_191 pg_9_427 rfl (ws_228 hW) (by decide) (fun x2 hx2 rx2 => ?_)
      refine rr_if_ne 361 pf_191_20 (by decide) rx2 (fun c3 => ?_) (fun c3 => ?_)
      · exact kx stk f n k _ _ M hq (by omega) (hq2) (by
                      rcases hev with ⟨a, b⟩ | ⟨a, b⟩
                      · exfalso; omega
                      · exact Or.inl ⟨b, a⟩)
      · refine rr_aload_n pf_191_23 rfl ?_
        refine vr_getZ hq pf_191_24 po_191 pg_9_353 rfl (ws_228 hW) (by decide) (fun x4 hx4 rx4 => ?_)
        rw [hq2 20 (by decide), hord] at hx4
        refine rr_if_eq 40 pf_191_27 (by decide) rx4 (fun c5 => ?_) (fun c5 => ?_)
        · exfalso; omega
        · refine rr_aload_n pf_191_30 rfl ?_
          refine rr_getR pf_191_31 po_191 pg_9_45 rfl (ws_228 hW) (by decide) (wr_228_24 hq.1) ?_
          refine rr_iload pf_191_34 rfl ?_
          refine vr_iald (j := k) hq pf_191_36 (ws_239 hW) (by omega) (by omega) (by decide) (fun x6 hx6 rx6 => ?_)
          rw [hq.2.2 239 (by decide)] at hx6
          refine rr_goto 57 pf_191_37 (by decide) ?_
          refine rr_istore pf_191_57 (fun y => [.ref 228, .int (iI (((fst : Nat) : Int))), .int (iI (((last : Nat) : Int))), .int (iI (((n : Nat) : Int))), .int (iI (((k : Nat) : Int))), .int (iI (y)), v6]) (Nat.le_of_ble_eq_true rfl) (fun _ => rfl) (fun y7 hy7 => ?_)
          have ry7 : rg y7 := hy7 ▸ rx6
          refine rr_aload_n pf_191_59 rfl ?_
          refine vr_getZ hq pf_191_60 po_191 pg_9_353 rfl (ws_228 hW) (by decide) (fun x8 hx8 rx8 => ?_)
          rw [hq2 20 (by decide), hord] at hx8
          refine rr_if_eq 76 pf_191_63 (by decide) rx8 (fun c9 => ?_) (fun c9 => ?_)
          · exfalso; omega
          · refine rr_aload_n pf_191_66 rfl ?_
            refine rr_getR pf_191_67 po_191 pg_9_48 rfl (ws_228 hW) (by decide) (wr_228_25 hq.1) ?_
            refine rr_iload pf_191_70 rfl ?_
            refine vr_iald (j := k) hq pf_191_72 (ws_240 hW) (by omega) (by omega) (by decide) (fun x10 hx10 rx10 => ?_)
            rw [hq.2.2 240 (by decide)] at hx10
            refine rr_goto 95 pf_191_73 (by decide) ?_
            refine rr_istore pf_191_95 (fun y => [.ref 228, .int (iI (((fst : Nat) : Int))), .int (iI (((last : Nat) : Int))), .int (iI (((n : Nat) : Int))), .int (iI (((k : Nat) : Int))), .int (iI (y7)), .int (iI (y))]) (Nat.le_of_ble_eq_true rfl) (fun _ => rfl) (fun y11 hy11 => ?_)
            have ry11 : rg y11 := hy11 ▸ rx10
            have hop : y7 = (M0 239) k := by rw [hy7, hx6]
            have harg : y11 = (M0 240) k := by rw [hy11, hx10]
            obtain ⟨hb0, hev3, hn, hB, hS⟩ := hev.resolve_right (fun z => by omega)
            refine rr_iinc pf_191_97 rfl (fun y => [.ref 228, .int (iI (((fst : Nat) : Int))), .int (iI (((last : Nat) : Int))), .int (iI (((n : Nat) : Int))), .int (iI (y)), .int (iI (y7)), .int (iI (y11))]) (fun _ => rfl) (fun y12 hy12 => ?_)
            refine rr_iload pf_191_100 rfl ?_
            refine rr_bipush pf_191_102 (by decide) ?_
            refine rr_icmp_ge 219 pf_191_104 (by decide) ry7 (by unfold rg; omega) (fun c13 => ?_) (fun c13 => ?_)
            · refine rr_iload pf_191_219 rfl ?_
              refine rr_bipush pf_191_221 (by decide) ?_
              refine rr_icmp_ge 296 pf_191_223 (by decide) ry7 (by unfold rg; omega) (fun c14 => ?_) (fun c14 => ?_)
              · refine rr_iload pf_191_296 rfl ?_
                refine rr_bipush pf_191_298 (by decide) ?_
                refine rr_icmp_ne 324 pf_191_300 (by decide) ry7 (by unfold rg; omega) (fun c15 => ?_) (fun c15 => ?_)
                · have hj4 : y11 = y11 ∨ True := Or.inr trivial
                  obtain ⟨f2, x0, r0, rfl, rfl, hev4⟩ := evS_jmp (by omega) (by rw [← hop]; omega) hev3
                  rw [← hop, ← harg] at hev4
                  have hn2 : n = r0.length + 1 := hn
                  have hbx := stkB_h hB
                  refine rr_aload_n pf_191_324 rfl ?_
                  refine rr_getR pf_191_325 po_191 pg_9_113 rfl (ws_228 hW) (by decide) (wr_228_37 hq.1) ?_
                  refine rr_iload_n pf_191_328 rfl ?_
                  refine rr_iconst pf_191_329 ?_
                  refine rr_isub pf_191_330 ?_
                  refine vr_lald (j := r0.length) hq pf_191_331 (ws_248 hW) (by omega) (by omega) (by decide) (fun x16 hx16 rx16 => ?_)
                  rw [ls_top hS] at hx16; replace hx16 := hx16.symm; subst hx16
                  refine rr_iload pf_191_332 rfl ?_
                  refine rr_bipush pf_191_334 (by decide) ?_
                  refine rr_icmp_ne 343 pf_191_336 (by decide) ry7 (by unfold rg; omega) (fun c17 => ?_) (fun c17 => ?_)
                  · refine rr_lconst (w := 1) pf_191_343 rfl ?_
                    refine rr_lcmp pf_191_344 rx16 (by unfold rl; omega) ?_
                    refine rr_ifc_ne 355 pf_191_345 (by decide) (fun c18 => ?_) (fun c18 => ?_)
                    · have hev5 := (hev4.resolve_left (fun z => by have z1 := z.1; split at z1 <;> omega)).2
                      refine rr_iinc pf_191_355 rfl (fun y => [.ref 228, .int (iI (((fst : Nat) : Int))), .int (iI (((last : Nat) : Int))), .int (iI (y)), .int (iI (y12)), .int (iI (y7)), .int (iI (y11))]) (fun _ => rfl) (fun y19 hy19 => ?_)
                      refine rr_goto 10 pf_191_358 (by decide) ?_
                      obtain ⟨n20, hn20, rfl⟩ : ∃ zz : Nat, zz = y19.toNat ∧ y19 = ((zz : Nat) : Int) := ⟨y19.toNat, rfl, by omega⟩
                      obtain ⟨n21, hn21, rfl⟩ : ∃ zz : Nat, zz = 1 + k ∧ y12 = ((zz : Nat) : Int) := ⟨1 + k, rfl, by omega⟩
                      exact ih _ (by omega) r0 f2 n20 n21 _ _ M rfl hq (hq2) (by omega) (by omega) (by
                                                  left
                                                  refine ⟨hb0, ?_, ?_, ?_, ?_⟩
                                                  · rw [show n21 = k + 1 by omega]; exact hev5
                                                  · omega
                                                  · exact stkB_t hB
                                                  · exact ls_pop hS)
                    · obtain ⟨_, hj1, hj2, hev5⟩ := hev4.resolve_right (fun z => z.1 (by split <;> omega))
                      refine rr_iload pf_191_348 rfl ?_
                      refine rr_istore pf_191_350 (fun y => [.ref 228, .int (iI (((fst : Nat) : Int))), .int (iI (((last : Nat) : Int))), .int (iI (((n : Nat) : Int))), .int (iI (y)), .int (iI (y7)), .int (iI (y11))]) (Nat.le_of_ble_eq_true rfl) (fun _ => rfl) (fun y22 hy22 => ?_)
                      have ry22 : rg y22 := hy22 ▸ ry11
                      refine rr_goto 358 pf_191_352 (by decide) ?_
                      refine rr_goto 10 pf_191_358 (by decide) ?_
                      obtain ⟨n23, hn23, rfl⟩ : ∃ zz : Nat, zz = y22.toNat ∧ y22 = ((zz : Nat) : Int) := ⟨y22.toNat, rfl, by omega⟩
                      exact ih _ (by omega) (x0 :: r0) f2 n n23 _ _ M rfl hq (hq2) (by omega) (by omega) (by
                                                  left
                                                  refine ⟨hb0, ?_, ?_, ?_, ?_⟩
                                                  · rw [show n23 = (y11).toNat by omega]; exact hev5
                                                  · simp only [List.length_cons]; omega
                                                  · exact hB
                                                  · exact hS)
                  · refine rr_lconst (w := 0) pf_191_339 rfl ?_
                    refine rr_goto 344 pf_191_340 (by decide) ?_
                    refine rr_lcmp pf_191_344 rx16 (by unfold rl; omega) ?_
                    refine rr_ifc_ne 355 pf_191_345 (by decide) (fun c24 => ?_) (fun c24 => ?_)
                    · have hev5 := (hev4.resolve_left (fun z => by have z1 := z.1; split at z1 <;> omega)).2
                      refine rr_iinc pf_191_355 rfl (fun y => [.ref 228, .int (iI (((fst : Nat) : Int))), .int (iI (((last : Nat) : Int))), .int (iI (y)), .int (iI (y12)), .int (iI (y7)), .int (iI (y11))]) (fun _ => rfl) (fun y25 hy25 => ?_)
                      refine rr_goto 10 pf_191_358 (by decide) ?_
                      obtain ⟨n26, hn26, rfl⟩ : ∃ zz : Nat, zz = y25.toNat ∧ y25 = ((zz : Nat) : Int) := ⟨y25.toNat, rfl, by omega⟩
                      obtain ⟨n27, hn27, rfl⟩ : ∃ zz : Nat, zz = 1 + k ∧ y12 = ((zz : Nat) : Int) := ⟨1 + k, rfl, by omega⟩
                      exact ih _ (by omega) r0 f2 n26 n27 _ _ M rfl hq (hq2) (by omega) (by omega) (by
                                                  left
                                                  refine ⟨hb0, ?_, ?_, ?_, ?_⟩
                                                  · rw [show n27 = k + 1 by omega]; exact hev5
                                                  · omega
                                                  · exact stkB_t hB
                                                  · exact ls_pop hS)
                    · obtain ⟨_, hj1, hj2, hev5⟩ := hev4.resolve_right (fun z => z.1 (by split <;> omega))
                      refine rr_iload pf_191_348 rfl ?_
                      refine rr_istore pf_191_350 (fun y => [.ref 228, .int (iI (((fst : Nat) : Int))), .int (iI (((last : Nat) : Int))), .int (iI (((n : Nat) : Int))), .int (iI (y)), .int (iI (y7)), .int (iI (y11))]) (Nat.le_of_ble_eq_true rfl) (fun _ => rfl) (fun y28 hy28 => ?_)
                      have ry28 : rg y28 := hy28 ▸ ry11
                      refine rr_goto 358 pf_191_352 (by decide) ?_
                      refine rr_goto 10 pf_191_358 (by decide) ?_
                      obtain ⟨n29, hn29, rfl⟩ : ∃ zz : Nat, zz = y28.toNat ∧ y28 = ((zz : Nat) : Int) := ⟨y28.toNat, rfl, by omega⟩
                      exact ih _ (by omega) (x0 :: r0) f2 n n29 _ _ M rfl hq (hq2) (by omega) (by omega) (by
                                                  left
                                                  refine ⟨hb0, ?_, ?_, ?_, ?_⟩
                                                  · rw [show n29 = (y11).toNat by omega]; exact hev5
                                                  · simp only [List.length_cons]; omega
                                                  · exact hB
                                                  · exact hS)
                · obtain ⟨f2, x0, r0, rfl, rfl, hev4⟩ := evS_not (by omega) (by rw [← hop]; omega) hev3
                  have hn2 : n = r0.length + 1 := hn
                  have hbx := stkB_h hB
                  refine rr_aload_n pf_191_303 rfl ?_
                  refine rr_getR pf_191_304 po_191 pg_9_113 rfl (ws_228 hW) (by decide) (wr_228_37 hq.1) ?_
                  refine rr_iload_n pf_191_307 rfl ?_
                  refine rr_iconst pf_191_308 ?_
                  refine rr_isub pf_191_309 ?_
                  refine rr_lconst (w := 1) pf_191_310 rfl ?_
                  refine rr_aload_n pf_191_311 rfl ?_
                  refine rr_getR pf_191_312 po_191 pg_9_113 rfl (ws_228 hW) (by decide) (wr_228_37 hq.1) ?_
                  refine rr_iload_n pf_191_315 rfl ?_
                  refine rr_iconst pf_191_316 ?_
                  refine rr_isub pf_191_317 ?_
                  refine vr_lald (j := r0.length) hq pf_191_318 (ws_248 hW) (by omega) (by omega) (by decide) (fun x30 hx30 rx30 => ?_)
                  rw [ls_top hS] at hx30; replace hx30 := hx30.symm; subst hx30
                  refine rr_lsub pf_191_319 ?_
                  refine vr_last (j := r0.length) hW hq pf_191_320 (ws_248 hW) (by omega) (by omega) (by decide) (by unfold rl; omega) (by decide) (fun M31 eM31 q32 => ?_)
                  refine rr_goto 358 pf_191_321 (by decide) ?_
                  refine rr_goto 10 pf_191_358 (by decide) ?_
                  obtain ⟨n33, hn33, rfl⟩ : ∃ zz : Nat, zz = 1 + k ∧ y12 = ((zz : Nat) : Int) := ⟨1 + k, rfl, by omega⟩
                  exact ih _ (by omega) ((1 - x0) :: r0) f2 n n33 _ _ M31 rfl q32 (by
                                          intro j hj
                                          rw [eM31, ask_ne (by decide)]
                                          exact hq2 j hj) (by omega) (by omega) (by
                                          left
                                          refine ⟨by rw [eM31, ask_ne (by decide)]; exact hb0, ?_, ?_, ?_, ?_⟩
                                          · rw [show n33 = k + 1 by omega]; exact hev4
                                          · simp only [List.length_cons]; omega
                                          · exact stkB_c (by omega) (stkB_t hB)
                                          · refine ls_push (ls_pop hS) ?_ ?_
                                            · rw [eM31, up_s]
                                            · intro j hj; rw [eM31, up_ne (by omega)])
              · obtain ⟨f2, y0, x0, r0, rfl, rfl, hev4⟩ := evS_bin (by omega) (by rw [← hop]; omega) (by rw [← hop]; omega) hev3
                rw [← hop] at hev4
                have hn2 : n = r0.length + 2 := hn
                have hby := stkB_h hB
                have hbx := stkB_h (stkB_t hB)
                refine rr_iinc pf_191_226 rfl (fun y => [.ref 228, .int (iI (((fst : Nat) : Int))), .int (iI (((last : Nat) : Int))), .int (iI (y)), .int (iI (y12)), .int (iI (y7)), .int (iI (y11))]) (fun _ => rfl) (fun y34 hy34 => ?_)
                refine rr_aload_n pf_191_229 rfl ?_
                refine rr_getR pf_191_230 po_191 pg_9_113 rfl (ws_228 hW) (by decide) (wr_228_37 hq.1) ?_
                refine rr_iload_n pf_191_233 rfl ?_
                refine rr_iconst pf_191_234 ?_
                refine rr_isub pf_191_235 ?_
                refine rr_aload_n pf_191_236 rfl ?_
                refine rr_iload pf_191_237 rfl ?_
                refine rr_aload_n pf_191_239 rfl ?_
                refine rr_getR pf_191_240 po_191 pg_9_113 rfl (ws_228 hW) (by decide) (wr_228_37 hq.1) ?_
                refine rr_iload_n pf_191_243 rfl ?_
                refine rr_iconst pf_191_244 ?_
                refine rr_isub pf_191_245 ?_
                refine vr_lald (j := r0.length) hq pf_191_246 (ws_248 hW) (by omega) (by omega) (by decide) (fun x35 hx35 rx35 => ?_)
                rw [ls_top (ls_pop hS)] at hx35; replace hx35 := hx35.symm; subst hx35
                refine rr_aload_n pf_191_247 rfl ?_
                refine rr_getR pf_191_248 po_191 pg_9_113 rfl (ws_228 hW) (by decide) (wr_228_37 hq.1) ?_
                refine rr_iload_n pf_191_251 rfl ?_
                refine vr_lald (j := r0.length + 1) hq pf_191_252 (ws_248 hW) (by omega) (by omega) (by decide) (fun x36 hx36 rx36 => ?_)
                rw [show r0.length + 1 = (x0 :: r0).length from rfl, ls_top hS] at hx36; replace hx36 := hx36.symm; subst hx36
                obtain ⟨M37, ⟨kq38, eM37⟩, hcM37⟩ := ct_R_reckon (xs := xs) (L := L) (d := d) (op := y7) (a := x0) (b := y0) (by omega) hW hq.1 hq.2.1 (by unfold rg; omega) (by unfold rg; omega) (by unfold rg; omega)
                have q38 := qk_trm hq kq38 (by decide)
                refine rr_cV3 pf_191_253 po_191 pc_9_433 (ws_228 hW) po_193 (by decide) rfl hcM37 ?_
                refine vr_last (j := r0.length) hW q38 pf_191_256 (ws_248 hW) (by omega) (by omega) (by decide) (rkV_rl (by unfold rg; omega) (by unfold rg; omega)) (by decide) (fun M39 eM39 q40 => ?_)
                refine rr_aload_n pf_191_257 rfl ?_
                refine rr_aload_n pf_191_258 rfl ?_
                refine vr_getZ q40 pf_191_259 po_191 pg_9_427 rfl (ws_228 hW) (by decide) (fun x41 hx41 rx41 => ?_)
                have hb6 : x41 = if (y7 = 23 ∨ y7 = 24) ∧ y0 = 0 then 1 else 0 := by
                  rw [hx41, eM39, ask_ne (by decide), eM37]
                  by_cases z1 : y7 = 23 ∨ y7 = 24
                  · rw [if_pos z1, up_s]; by_cases z2 : y0 = 0
                    · rw [if_pos (by omega), if_pos ⟨z1, z2⟩]
                    · rw [if_neg (by omega), if_neg (fun z => z2 z.2)]
                  · rw [if_neg z1, if_neg (fun z => z1 z.1)]; exact hb0
                refine rr_if_ne 285 pf_191_262 (by decide) rx41 (fun c42 => ?_) (fun c42 => ?_)
                · refine rr_iconst pf_191_285 ?_
                  refine rr_goto 290 pf_191_286 (by decide) ?_
                  refine vr_putZ hW q40 pf_191_290 po_191 pg_9_427 (Or.inl rfl) rfl (ws_228 hW) (by decide) (by omega) (by decide) (fun M43 eM43 q44 => ?_)
                  refine rr_goto 358 pf_191_293 (by decide) ?_
                  refine rr_goto 10 pf_191_358 (by decide) ?_
                  obtain ⟨n45, hn45, rfl⟩ : ∃ zz : Nat, zz = y34.toNat ∧ y34 = ((zz : Nat) : Int) := ⟨y34.toNat, rfl, by omega⟩
                  obtain ⟨n46, hn46, rfl⟩ : ∃ zz : Nat, zz = 1 + k ∧ y12 = ((zz : Nat) : Int) := ⟨1 + k, rfl, by omega⟩
                  exact ih _ (by omega) (sp_rkV y7 x0 y0 :: r0) f2 n45 n46 _ _ M43 rfl q44 (by
                                          intro j hj
                                          rw [eM43, up_ne hj, eM39, ask_ne (by decide), eM37]
                                          split
                                          · rw [up_ne hj]; exact hq2 j hj
                                          · exact hq2 j hj) (by omega) (by omega) (by
                                          right
                                          refine ⟨by rw [eM43, up_s], ?_⟩
                                          rcases hev4 with ⟨_, z⟩ | ⟨z, _⟩
                                          · exact z
                                          · exfalso; apply z; refine Or.inl (Decidable.byContradiction (fun z2 => ?_)); rw [if_neg z2] at hb6; omega)
                · refine rr_aload_n pf_191_265 rfl ?_
                  refine rr_getR pf_191_266 po_191 pg_9_113 rfl (ws_228 hW) (by decide) (wr_228_37 q40.1) ?_
                  refine rr_iload_n pf_191_269 rfl ?_
                  refine rr_iconst pf_191_270 ?_
                  refine rr_isub pf_191_271 ?_
                  refine vr_lald (j := r0.length) q40 pf_191_272 (ws_248 hW) (by omega) (by omega) (by decide) (fun x47 hx47 rx47 => ?_)
                  rw [eM39, up_s] at hx47
                  refine rr_ldc2_w pf_191_273 po_191 pl_9_437 ?_
                  refine rr_ldc2_w pf_191_276 po_191 pl_9_439 ?_
                  refine rr_cS3 pf_191_279 po_191 pc_9_197 (by decide) rfl (ct_R_in (by omega) rx47 (by unfold rl; omega) (by unfold rl; omega)) ?_
                  refine rr_ifb_ne 289 pf_191_282 (by decide) (fun c48 => ?_) (fun c48 => ?_)
                  · refine rr_iconst pf_191_289 ?_
                    refine vr_putZ hW q40 pf_191_290 po_191 pg_9_427 (Or.inl rfl) rfl (ws_228 hW) (by decide) (by omega) (by decide) (fun M49 eM49 q50 => ?_)
                    refine rr_goto 358 pf_191_293 (by decide) ?_
                    refine rr_goto 10 pf_191_358 (by decide) ?_
                    obtain ⟨n51, hn51, rfl⟩ : ∃ zz : Nat, zz = y34.toNat ∧ y34 = ((zz : Nat) : Int) := ⟨y34.toNat, rfl, by omega⟩
                    obtain ⟨n52, hn52, rfl⟩ : ∃ zz : Nat, zz = 1 + k ∧ y12 = ((zz : Nat) : Int) := ⟨1 + k, rfl, by omega⟩
                    exact ih _ (by omega) (sp_rkV y7 x0 y0 :: r0) f2 n51 n52 _ _ M49 rfl q50 (by
                                              intro j hj
                                              rw [eM49, up_ne hj, eM39, ask_ne (by decide), eM37]
                                              split
                                              · rw [up_ne hj]; exact hq2 j hj
                                              · exact hq2 j hj) (by omega) (by omega) (by
                                              left
                                              refine ⟨by rw [eM49, up_s], ?_, ?_, ?_, ?_⟩
                                              · rw [show n52 = k + 1 by omega]
                                                rcases hev4 with ⟨z, _⟩ | ⟨_, z⟩
                                                · exfalso; rcases z with z | z
                                                  · rw [if_pos z] at hb6; omega
                                                  · omega
                                                · exact z
                                              · simp only [List.length_cons]; omega
                                              · exact stkB_c (by omega) (stkB_t (stkB_t hB))
                                              · refine ls_push (ls_pop (ls_pop hS)) ?_ ?_
                                                · rw [eM49, ask_ne (by decide), eM39, up_s]
                                                · intro j hj; rw [eM49, ask_ne (by decide), eM39, up_ne (by omega), eM37]; split <;> first | rfl | rw [ask_ne (by decide)])
                  · refine rr_iconst pf_191_285 ?_
                    refine rr_goto 290 pf_191_286 (by decide) ?_
                    refine vr_putZ hW q40 pf_191_290 po_191 pg_9_427 (Or.inl rfl) rfl (ws_228 hW) (by decide) (by omega) (by decide) (fun M53 eM53 q54 => ?_)
                    refine rr_goto 358 pf_191_293 (by decide) ?_
                    refine rr_goto 10 pf_191_358 (by decide) ?_
                    obtain ⟨n55, hn55, rfl⟩ : ∃ zz : Nat, zz = y34.toNat ∧ y34 = ((zz : Nat) : Int) := ⟨y34.toNat, rfl, by omega⟩
                    obtain ⟨n56, hn56, rfl⟩ : ∃ zz : Nat, zz = 1 + k ∧ y12 = ((zz : Nat) : Int) := ⟨1 + k, rfl, by omega⟩
                    exact ih _ (by omega) (sp_rkV y7 x0 y0 :: r0) f2 n55 n56 _ _ M53 rfl q54 (by
                                              intro j hj
                                              rw [eM53, up_ne hj, eM39, ask_ne (by decide), eM37]
                                              split
                                              · rw [up_ne hj]; exact hq2 j hj
                                              · exact hq2 j hj) (by omega) (by omega) (by
                                              right
                                              refine ⟨by rw [eM53, up_s], ?_⟩
                                              rcases hev4 with ⟨_, z⟩ | ⟨z, _⟩
                                              · exact z
                                              · exfalso; apply z; omega)
            · obtain ⟨f2, x0, rfl, hlf0, hev4⟩ := evS_leaf (by omega) (by rw [← hop]; omega) hev3
              have hlx := hlf _ _ _ hlf0
              rw [← hop, ← harg] at hlx
              refine rr_aload_n pf_191_107 rfl ?_
              refine rr_getR pf_191_108 po_191 pg_9_113 rfl (ws_228 hW) (by decide) (wr_228_37 hq.1) ?_
              refine rr_iload_n pf_191_111 rfl ?_
              refine rr_iload pf_191_112 rfl ?_
              refine rr_if_ne 123 pf_191_114 (by decide) ry7 (fun c57 => ?_) (fun c57 => ?_)
              · refine rr_aload_n pf_191_123 rfl ?_
                refine vr_getZ hq pf_191_124 po_191 pg_9_353 rfl (ws_228 hW) (by decide) (fun x58 hx58 rx58 => ?_)
                rw [hq2 20 (by decide), hord] at hx58
                refine rr_if_ne 140 pf_191_127 (by decide) rx58 (fun c59 => ?_) (fun c59 => ?_)
                · refine rr_iload pf_191_140 rfl ?_
                  refine rr_bipush pf_191_142 (by decide) ?_
                  refine rr_icmp_ge 157 pf_191_144 (by decide) ry7 (by unfold rg; omega) (fun c60 => ?_) (fun c60 => ?_)
                  · refine rr_iload pf_191_157 rfl ?_
                    refine rr_bipush pf_191_159 (by decide) ?_
                    refine rr_icmp_ge 186 pf_191_161 (by decide) ry7 (by unfold rg; omega) (fun c61 => ?_) (fun c61 => ?_)
                    · refine rr_aload_n pf_191_186 rfl ?_
                      refine rr_iload pf_191_187 rfl ?_
                      refine rr_cV1 pf_191_189 po_191 pc_9_248 (ws_228 hW) po_192 (by decide) rfl (ct_R_isListenerN (n := M0 230 1) (by omega) hW hq.1 hq.2.1 ry11 (congrFun (hq.2.2 230 (by decide)) 1)) ?_
                      refine rr_ifb_eq 209 pf_191_192 (by decide) (fun c62 => ?_) (fun c62 => ?_)
                      · refine rr_ldc2_w pf_191_209 po_191 pl_9_303 ?_
                        refine vr_last (j := n) hW hq pf_191_212 (ws_248 hW) (by omega) (by omega) (by decide) (by unfold rl; omega) (by decide) (fun M63 eM63 q64 => ?_)
                        refine rr_iinc pf_191_213 rfl (fun y => [.ref 228, .int (iI (((fst : Nat) : Int))), .int (iI (((last : Nat) : Int))), .int (iI (y)), .int (iI (y12)), .int (iI (y7)), .int (iI (y11))]) (fun _ => rfl) (fun y65 hy65 => ?_)
                        refine rr_goto 358 pf_191_216 (by decide) ?_
                        refine rr_goto 10 pf_191_358 (by decide) ?_
                        obtain ⟨n66, hn66, rfl⟩ : ∃ zz : Nat, zz = 1 + n ∧ y65 = ((zz : Nat) : Int) := ⟨1 + n, rfl, by omega⟩
                        obtain ⟨n67, hn67, rfl⟩ : ∃ zz : Nat, zz = 1 + k ∧ y12 = ((zz : Nat) : Int) := ⟨1 + k, rfl, by omega⟩
                        exact ih _ (by omega) (x0 :: stk) f2 n66 n67 _ _ M63 rfl q64 (by
                                                      intro j hj
                                                      rw [eM63, ask_ne (by decide)]
                                                      exact hq2 j hj) (by omega) (by omega) (by
                                                      left
                                                      refine ⟨by rw [eM63, ask_ne (by decide)]; exact hb0, ?_, ?_, ?_, ?_⟩
                                                      · rw [show n67 = k + 1 by omega]; exact hev4
                                                      · simp only [List.length_cons]; omega
                                                      · exact stkB_c (by omega) hB
                                                      · refine ls_push hS ?_ ?_
                                                        · rw [eM63, ← hn, up_s]; omega
                                                        · intro j hj; rw [eM63, up_ne (by omega)])
                      · refine rr_aload_n pf_191_195 rfl ?_
                        refine rr_getR pf_191_196 po_191 pg_9_13 rfl (ws_228 hW) (by decide) (wr_228_3 hq.1) ?_
                        refine rr_bipush pf_191_199 (by decide) ?_
                        refine rr_iload pf_191_201 rfl ?_
                        refine rr_iadd pf_191_203 ?_
                        refine vr_iald (j := (63 + y11).toNat) hq pf_191_204 (ws_230 hW) (by omega) (by omega) (by decide) (fun x68 hx68 rx68 => ?_)
                        rw [hq.2.2 230 (by decide)] at hx68
                        refine rr_i2l pf_191_205 rx68 ?_
                        refine rr_goto 212 pf_191_206 (by decide) ?_
                        refine vr_last (j := n) hW hq pf_191_212 (ws_248 hW) (by omega) (by omega) (by decide) (rl_rg rx68) (by decide) (fun M69 eM69 q70 => ?_)
                        refine rr_iinc pf_191_213 rfl (fun y => [.ref 228, .int (iI (((fst : Nat) : Int))), .int (iI (((last : Nat) : Int))), .int (iI (y)), .int (iI (y12)), .int (iI (y7)), .int (iI (y11))]) (fun _ => rfl) (fun y71 hy71 => ?_)
                        refine rr_goto 358 pf_191_216 (by decide) ?_
                        refine rr_goto 10 pf_191_358 (by decide) ?_
                        obtain ⟨n72, hn72, rfl⟩ : ∃ zz : Nat, zz = 1 + n ∧ y71 = ((zz : Nat) : Int) := ⟨1 + n, rfl, by omega⟩
                        obtain ⟨n73, hn73, rfl⟩ : ∃ zz : Nat, zz = 1 + k ∧ y12 = ((zz : Nat) : Int) := ⟨1 + k, rfl, by omega⟩
                        exact ih _ (by omega) (x0 :: stk) f2 n72 n73 _ _ M69 rfl q70 (by
                                                      intro j hj
                                                      rw [eM69, ask_ne (by decide)]
                                                      exact hq2 j hj) (by omega) (by omega) (by
                                                      left
                                                      refine ⟨by rw [eM69, ask_ne (by decide)]; exact hb0, ?_, ?_, ?_, ?_⟩
                                                      · rw [show n73 = k + 1 by omega]; exact hev4
                                                      · simp only [List.length_cons]; omega
                                                      · exact stkB_c (by omega) hB
                                                      · refine ls_push hS ?_ ?_
                                                        · rw [eM69, ← hn, up_s]; omega
                                                        · intro j hj; rw [eM69, up_ne (by omega)])
                    · refine rr_aload_n pf_191_164 rfl ?_
                      refine rr_getR pf_191_165 po_191 pg_9_13 rfl (ws_228 hW) (by decide) (wr_228_3 hq.1) ?_
                      refine rr_bipush pf_191_168 (by decide) ?_
                      refine rr_iconst pf_191_170 ?_
                      refine rr_iload pf_191_171 rfl ?_
                      refine rr_imul pf_191_173 ?_
                      refine rr_iadd pf_191_174 ?_
                      refine rr_iload pf_191_175 rfl ?_
                      refine rr_iadd pf_191_177 ?_
                      refine rr_bipush pf_191_178 (by decide) ?_
                      refine rr_isub pf_191_180 ?_
                      refine vr_iald (j := (((9 + (3 * y11)) + y7) - 6).toNat) hq pf_191_181 (ws_230 hW) (by omega) (by omega) (by decide) (fun x74 hx74 rx74 => ?_)
                      rw [hq.2.2 230 (by decide)] at hx74
                      refine rr_i2l pf_191_182 rx74 ?_
                      refine rr_goto 212 pf_191_183 (by decide) ?_
                      refine vr_last (j := n) hW hq pf_191_212 (ws_248 hW) (by omega) (by omega) (by decide) (rl_rg rx74) (by decide) (fun M75 eM75 q76 => ?_)
                      refine rr_iinc pf_191_213 rfl (fun y => [.ref 228, .int (iI (((fst : Nat) : Int))), .int (iI (((last : Nat) : Int))), .int (iI (y)), .int (iI (y12)), .int (iI (y7)), .int (iI (y11))]) (fun _ => rfl) (fun y77 hy77 => ?_)
                      refine rr_goto 358 pf_191_216 (by decide) ?_
                      refine rr_goto 10 pf_191_358 (by decide) ?_
                      obtain ⟨n78, hn78, rfl⟩ : ∃ zz : Nat, zz = 1 + n ∧ y77 = ((zz : Nat) : Int) := ⟨1 + n, rfl, by omega⟩
                      obtain ⟨n79, hn79, rfl⟩ : ∃ zz : Nat, zz = 1 + k ∧ y12 = ((zz : Nat) : Int) := ⟨1 + k, rfl, by omega⟩
                      exact ih _ (by omega) (x0 :: stk) f2 n78 n79 _ _ M75 rfl q76 (by
                                                  intro j hj
                                                  rw [eM75, ask_ne (by decide)]
                                                  exact hq2 j hj) (by omega) (by omega) (by
                                                  left
                                                  refine ⟨by rw [eM75, ask_ne (by decide)]; exact hb0, ?_, ?_, ?_, ?_⟩
                                                  · rw [show n79 = k + 1 by omega]; exact hev4
                                                  · simp only [List.length_cons]; omega
                                                  · exact stkB_c (by omega) hB
                                                  · refine ls_push hS ?_ ?_
                                                    · rw [eM75, ← hn, up_s]; omega
                                                    · intro j hj; rw [eM75, up_ne (by omega)])
                  · refine rr_aload_n pf_191_147 rfl ?_
                    refine rr_getR pf_191_148 po_191 pg_9_110 rfl (ws_228 hW) (by decide) (wr_228_36 hq.1) ?_
                    refine rr_iload pf_191_151 rfl ?_
                    refine vr_lald (j := (y7).toNat) hq pf_191_153 (ws_247 hW) (by omega) (by omega) (by decide) (fun x80 hx80 rx80 => ?_)
                    rw [hq.2.2 247 (by decide)] at hx80
                    refine rr_goto 212 pf_191_154 (by decide) ?_
                    refine vr_last (j := n) hW hq pf_191_212 (ws_248 hW) (by omega) (by omega) (by decide) rx80 (by decide) (fun M81 eM81 q82 => ?_)
                    refine rr_iinc pf_191_213 rfl (fun y => [.ref 228, .int (iI (((fst : Nat) : Int))), .int (iI (((last : Nat) : Int))), .int (iI (y)), .int (iI (y12)), .int (iI (y7)), .int (iI (y11))]) (fun _ => rfl) (fun y83 hy83 => ?_)
                    refine rr_goto 358 pf_191_216 (by decide) ?_
                    refine rr_goto 10 pf_191_358 (by decide) ?_
                    obtain ⟨n84, hn84, rfl⟩ : ∃ zz : Nat, zz = 1 + n ∧ y83 = ((zz : Nat) : Int) := ⟨1 + n, rfl, by omega⟩
                    obtain ⟨n85, hn85, rfl⟩ : ∃ zz : Nat, zz = 1 + k ∧ y12 = ((zz : Nat) : Int) := ⟨1 + k, rfl, by omega⟩
                    exact ih _ (by omega) (x0 :: stk) f2 n84 n85 _ _ M81 rfl q82 (by
                                              intro j hj
                                              rw [eM81, ask_ne (by decide)]
                                              exact hq2 j hj) (by omega) (by omega) (by
                                              left
                                              refine ⟨by rw [eM81, ask_ne (by decide)]; exact hb0, ?_, ?_, ?_, ?_⟩
                                              · rw [show n85 = k + 1 by omega]; exact hev4
                                              · simp only [List.length_cons]; omega
                                              · exact stkB_c (by omega) hB
                                              · refine ls_push hS ?_ ?_
                                                · rw [eM81, ← hn, up_s]; omega
                                                · intro j hj; rw [eM81, up_ne (by omega)])
                · exfalso; omega
              · refine rr_iload pf_191_117 rfl ?_
                refine rr_i2l pf_191_119 ry11 ?_
                refine rr_goto 212 pf_191_120 (by decide) ?_
                refine vr_last (j := n) hW hq pf_191_212 (ws_248 hW) (by omega) (by omega) (by decide) (rl_rg ry11) (by decide) (fun M86 eM86 q87 => ?_)
                refine rr_iinc pf_191_213 rfl (fun y => [.ref 228, .int (iI (((fst : Nat) : Int))), .int (iI (((last : Nat) : Int))), .int (iI (y)), .int (iI (y12)), .int (iI (y7)), .int (iI (y11))]) (fun _ => rfl) (fun y88 hy88 => ?_)
                refine rr_goto 358 pf_191_216 (by decide) ?_
                refine rr_goto 10 pf_191_358 (by decide) ?_
                obtain ⟨n89, hn89, rfl⟩ : ∃ zz : Nat, zz = 1 + n ∧ y88 = ((zz : Nat) : Int) := ⟨1 + n, rfl, by omega⟩
                obtain ⟨n90, hn90, rfl⟩ : ∃ zz : Nat, zz = 1 + k ∧ y12 = ((zz : Nat) : Int) := ⟨1 + k, rfl, by omega⟩
                exact ih _ (by omega) (x0 :: stk) f2 n89 n90 _ _ M86 rfl q87 (by
                                      intro j hj
                                      rw [eM86, ask_ne (by decide)]
                                      exact hq2 j hj) (by omega) (by omega) (by
                                      left
                                      refine ⟨by rw [eM86, ask_ne (by decide)]; exact hb0, ?_, ?_, ?_, ?_⟩
                                      · rw [show n90 = k + 1 by omega]; exact hev4
                                      · simp only [List.length_cons]; omega
                                      · exact stkB_c (by omega) hB
                                      · refine ls_push hS ?_ ?_
                                        · rw [eM86, ← hn, up_s]; omega
                                        · intro j hj; rw [eM86, up_ne (by omega)])
theorem ct_R_reckonAllO {xs : Nat → Int} {L d : Nat} {sh : List (Nat × Nat)} {M0 : Nat → Nat → Int} (hd : 3 ≤ d) (hW : px_W0 <+: sh) (hF : px_Fx M0) (hG : px_RG sh M0)  {fst last : Nat} {f0 : Nat} {lf : Int → Int → Option Int} {res : Option (List Int)} (hord : M0 228 20 = 1) (hl : last ≤ 400) (hfl : fst ≤ last) (hlf : ∀ op arg x, lf op arg = some x → (-1000000000 ≤ x ∧ x ≤ 1000000000) ∧ ((op = 0 ∧ x = arg) ∨ (1 ≤ op ∧ op ≤ 5 ∧ x = M0 247 op.toNat) ∨ (6 ≤ op ∧ op ≤ 8 ∧ 0 ≤ arg ∧ arg ≤ 15 ∧ x = M0 230 (9 + 3 * arg + op - 6).toNat) ∨ (op = 9 ∧ 0 ≤ arg ∧ arg ≤ 5 ∧ ((arg < M0 230 1 ∧ x = M0 230 (63 + arg).toNat) ∨ (M0 230 1 ≤ arg ∧ x = -1))))) (hev0 : evS (M0 239) (M0 240) lf last f0 fst [] = some res) : ∃ M, (px_qk sh [228, 248] M0 M ∧ ((res = none ∧ M 228 38 = 1) ∨ (∃ s, res = some s ∧ M 228 38 = 0 ∧ M 228 39 = s.reverse.getD 0 0)) ∧ (∀ j, j ≠ 38 → j ≠ 39 → M 228 j = M0 228 j)) ∧ px_Cl xs L d 191 [.ref 228, .int (iI (((fst : Nat) : Int))), .int (iI (((last : Nat) : Int)))] (sh, M0) (none) (sh, M) := by
  obtain ⟨d, rfl⟩ : ∃ e, d = e + 1 := ⟨d - 1, by omega⟩
  have q0 : px_qk sh [228, 248] M0 M0 := ⟨hF, hG, eo_rf⟩
  refine vc_n (Nat.le_of_ble_eq_true rfl) ?_
  show px_R xs L d 191 (0, [.ref 228, .int (iI (((fst : Nat) : Int))), .int (iI (((last : Nat) : Int))), px_jk, px_jk, px_jk, px_jk], [], (sh, M0)) (fun r h' => r = none ∧ ∃ M', h' = (sh, M') ∧ px_qk sh [228, 248] M0 M' ∧ ((res = none ∧ M' 228 38 = 1) ∨ (∃ s, res = some s ∧ M' 228 38 = 0 ∧ M' 228 39 = s.reverse.getD 0 0)) ∧ (∀ j, j ≠ 38 → j ≠ 39 → M' 228 j = M0 228 j))
  refine rr_aload_n pf_191_0 rfl ?_
  refine rr_iconst pf_191_1 ?_
  refine vr_putZ hW q0 pf_191_2 po_191 pg_9_427 (Or.inl rfl) rfl (ws_228 hW) (by decide) (by omega) (by decide) (fun M1 eM1 q2 => ?_)
  refine rr_iconst pf_191_5 ?_
  refine rr_istore_n pf_191_6 (fun y => [.ref 228, .int (iI (((fst : Nat) : Int))), .int (iI (((last : Nat) : Int))), .int (iI (y)), px_jk, px_jk, px_jk]) (Nat.le_of_ble_eq_true rfl) (fun _ => rfl) (fun y3 hy3 => ?_)
  refine rr_iload_n pf_191_7 rfl ?_
  refine rr_istore pf_191_8 (fun y => [.ref 228, .int (iI (((fst : Nat) : Int))), .int (iI (((last : Nat) : Int))), .int (iI (y3)), .int (iI (y)), px_jk, px_jk]) (Nat.le_of_ble_eq_true rfl) (fun _ => rfl) (fun y4 hy4 => ?_)
  obtain ⟨n5, hn5, rfl⟩ : ∃ zz : Nat, zz = 0 ∧ y3 = ((zz : Nat) : Int) := ⟨0, rfl, by omega⟩
  obtain ⟨n6, hn6, rfl⟩ : ∃ zz : Nat, zz = fst ∧ y4 = ((zz : Nat) : Int) := ⟨fst, rfl, by omega⟩
  refine lp_R_reckonAllO_10 (xs := xs) (L := L) (d := d) (by omega) hW hord hl hlf (fun stk_7 f_8 n_9 k_10 v13 v14 M11 q12 xn_M11 xq2_M11 xev_M11 => ?_) _ ([]) f0 n5 n6 _ _ M1 rfl q2 (by intro j hj; rw [eM1, up_ne hj]) (by omega) (by omega) (by left; refine ⟨by rw [eM1, up_s], ?_, by simp only [List.length_nil]; omega, (fun x hx => by cases hx), (fun j hj => by simp at hj)⟩; rw [show n6 = fst by omega]; exact hev0)
  refine rr_aload_n pf_191_361 rfl ?_
  refine rr_iload_n pf_191_362 rfl ?_
  refine rr_if_le 375 pf_191_363 (by decide) (by unfold rg; omega) (fun c15 => ?_) (fun c15 => ?_)
  · refine rr_lconst (w := 0) pf_191_375 rfl ?_
    refine vr_putL hW q12 pf_191_376 po_191 pg_9_441 (Or.inl rfl) rfl (ws_228 hW) (by decide) (by unfold rl; omega) (by decide) (fun M16 eM16 q17 => ?_)
    refine rr_vret pf_191_379 pt_191 ⟨rfl, M16, rfl, q17, by
        rcases xev_M11 with ⟨a, b⟩ | ⟨s, a, b, c, e⟩
        · exact Or.inl ⟨a, by rw [eM16, up_ne (by decide)]; exact b⟩
        · refine Or.inr ⟨s, a, by rw [eM16, up_ne (by decide)]; exact b, ?_⟩
          rw [eM16, up_s]
          rw [show s = [] from List.length_eq_zero_iff.mp (by omega)]; rfl, by
        intro j h1 h2
        rw [eM16, up_ne h2]
        exact xq2_M11 j h1⟩
  · refine rr_aload_n pf_191_366 rfl ?_
    refine rr_getR pf_191_367 po_191 pg_9_113 rfl (ws_228 hW) (by decide) (wr_228_37 q12.1) ?_
    refine rr_iconst pf_191_370 ?_
    refine vr_lald (j := 0) q12 pf_191_371 (ws_248 hW) (by omega) (by omega) (by decide) (fun x18 hx18 rx18 => ?_)
    refine rr_goto 376 pf_191_372 (by decide) ?_
    refine vr_putL hW q12 pf_191_376 po_191 pg_9_441 (Or.inl rfl) rfl (ws_228 hW) (by decide) rx18 (by decide) (fun M19 eM19 q20 => ?_)
    refine rr_vret pf_191_379 pt_191 ⟨rfl, M19, rfl, q20, by
        rcases xev_M11 with ⟨a, b⟩ | ⟨s, a, b, c, e⟩
        · exact Or.inl ⟨a, by rw [eM19, up_ne (by decide)]; exact b⟩
        · refine Or.inr ⟨s, a, by rw [eM19, up_ne (by decide)]; exact b, ?_⟩
          rw [eM19, up_s]
          rw [hx18, c 0 (by omega)], by
        intro j h1 h2
        rw [eM19, up_ne h2]
        exact xq2_M11 j h1⟩

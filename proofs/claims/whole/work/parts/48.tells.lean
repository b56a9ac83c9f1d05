/-! the reference: what laws tell -/
/-- what queries leave of the reference's fields -/
def rq (M M2 : Nat → Nat → Int) : Prop := ∀ j, (j < 34 ∨ (34 < j ∧ j < 38) ∨ 40 < j) → M2 228 j = M 228 j
theorem rq_rf (M : Nat → Nat → Int) : rq M M := fun _ _ => rfl
theorem rq_tr {M M2 M3 : Nat → Nat → Int} (h1 : rq M M2) (h2 : rq M2 M3) : rq M M3 := fun j hj => (h2 j hj).trans (h1 j hj)
theorem rq_ne {M M2 M3 : Nat → Nat → Int} {a i : Nat} {x : Int} (h : rq M M2) (e : M3 = px_up M2 a i x) (ha : 228 ≠ a) : rq M M3 := fun j hj => by rw [e, ask_ne ha]; exact h j hj
theorem rq_up {M M2 M3 : Nat → Nat → Int} {i : Nat} {x : Int} (h : rq M M2) (e : M3 = px_up M2 228 i x) (ha : i = 34 ∨ i = 38 ∨ i = 39 ∨ i = 40) : rq M M3 := fun j hj => by rw [e, up_ne (by omega)]; exact h j hj
theorem rq_q {sh : List (Nat × Nat)} {A : List Nat} {M M2 M3 : Nat → Nat → Int} (h : rq M M2) (q : px_qk sh A M2 M3) (ha : 228 ∉ A) : rq M M3 := fun j hj => by rw [q.2.2 228 ha]; exact h j hj
theorem rq_mk {M M2 M3 : Nat → Nat → Int} (h : rq M M2) (h2 : ∀ j, j ≠ 38 → j ≠ 39 → M3 228 j = M2 228 j) : rq M M3 := fun j hj => (h2 j (by omega) (by omega)).trans (h j hj)
def lfL2 (v : Nat → Int) (op arg : Int) : Option Int := if op = 0 then (if -1000000000 ≤ arg ∧ arg ≤ 1000000000 then some arg else none) else if 1 ≤ op ∧ op ≤ 12 then some (v (op - 1).toNat) else none
theorem lfL2_ok {M : Nat → Nat → Int} {v : Nat → Int} (hst : stE M v) (hbn : px_bnd v) : ∀ op arg x, lfL2 v op arg = some x → (-1000000000 ≤ x ∧ x ≤ 1000000000) ∧ ((op = 0 ∧ x = arg) ∨ (1 ≤ op ∧ op ≤ 12 ∧ x = M 246 op.toNat)) := by
  intro op arg x h
  unfold lfL2 at h
  split at h
  · rename_i h0
    split at h
    · rename_i hb; cases h; exact ⟨hb, Or.inl ⟨h0, rfl⟩⟩
    · cases h
  · split at h
    · rename_i h1
      cases h
      refine ⟨hbn _ (by omega), Or.inr ⟨h1.1, h1.2, ?_⟩⟩
      rw [← hst (op - 1).toNat (by omega)]
      congr 1
      omega
    · cases h
/-- the code from a to b means y -/
def rlM (ops args : Nat → Int) (lf : Int → Int → Option Int) (a b : Nat) (y : Option Int) : Prop := ∃ f res, evS ops args lf b f a [] = some res ∧ ((y = none ∧ res = none) ∨ (∃ z s, y = some z ∧ res = some s ∧ s.reverse.getD 0 0 = z ∧ -1000000000 ≤ z ∧ z ≤ 1000000001))
/-- one clause of a text of the reference -/
def rl_cl (g : Nat → Int) (lb c : Nat) (x : sp_C) : Prop := g (2 + 8 * c + lb) = x.1 ∧ (0 ≤ x.1 ∧ x.1 ≤ 3) ∧ (∃ a b : Nat, g (7 + 8 * c + lb) = ((a : Nat) : Int) ∧ g (8 + 8 * c + lb) = ((b : Nat) : Int) ∧ a ≤ b ∧ b ≤ 400 ∧ ∀ v, px_bnd v → (∀ y, x.2.1 v = some y → y = 0 ∨ y = 1) ∧ (a = b → x.2.1 v = some 1) ∧ (a < b → rlM (fun k => g (98 + 2 * k + lb)) (fun k => g (99 + 2 * k + lb)) (lfL2 v) a b (x.2.1 v))) ∧ (∃ a b : Nat, g (5 + 8 * c + lb) = ((a : Nat) : Int) ∧ g (6 + 8 * c + lb) = ((b : Nat) : Int) ∧ a ≤ b ∧ b ≤ 400 ∧ ∀ v, px_bnd v → (x.1 = 3 → x.2.2 v = some 1) ∧ (x.1 ≠ 3 → rlM (fun k => g (98 + 2 * k + lb)) (fun k => g (99 + 2 * k + lb)) (lfL2 v) a b (x.2.2 v)))
def rl_den (g : Nat → Int) (lb : Nat) (lw : List sp_C) : Prop := g (1 + lb) = ((lw.length : Nat) : Int) ∧ lw.length ≤ 12 ∧ ∀ c, c < lw.length → ∃ x, lw[c]? = some x ∧ rl_cl g lb c x
/-- the law in force of the reference means lw -/
def px_lwR (M : Nat → Nat → Int) (lw : List sp_C) : Prop := ((M 230 4 = -1 ∧ lw = []) ∨ ∃ n : Nat, M 230 4 = ((n : Nat) : Int) ∧ n < 6 ∧ rl_den (M 230) (110 + 900 * n) lw) ∧ sp_rs lw
theorem lwR_eq {M M2 : Nat → Nat → Int} {lw : List sp_C} (e : M2 230 = M 230) (h : px_lwR M lw) : px_lwR M2 lw := by unfold px_lwR; rw [e]; exact h
theorem lwR_q {sh : List (Nat × Nat)} {A : List Nat} {M M2 : Nat → Nat → Int} {lw : List sp_C} (q : px_qk sh A M M2) (h : 230 ∉ A) (hl : px_lwR M lw) : px_lwR M2 lw := lwR_eq (q.2.2 230 h) hl
theorem stE_q {sh : List (Nat × Nat)} {A : List Nat} {M M2 : Nat → Nat → Int} {v : Nat → Int} (q : px_qk sh A M M2) (h : 246 ∉ A) (hl : stE M v) : stE M2 v := fun j hj => by rw [q.2.2 246 h]; exact hl j hj
theorem lwO_q {sh : List (Nat × Nat)} {A : List Nat} {M M2 : Nat → Nat → Int} (q : px_qk sh A M M2) (h : 230 ∉ A) (lb : Nat) : lwO M2 lb = lwO M lb := by funext k; unfold lwO; rw [q.2.2 230 h]
theorem lwA_q {sh : List (Nat × Nat)} {A : List Nat} {M M2 : Nat → Nat → Int} (q : px_qk sh A M M2) (h : 230 ∉ A) (lb : Nat) : lwA M2 lb = lwA M lb := by funext k; unfold lwA; rw [q.2.2 230 h]
theorem ct_R_isSo {xs : Nat → Int} {L d : Nat} {sh : List (Nat × Nat)} {M0 : Nat → Nat → Int} (hd : 4 ≤ d) (hW : px_W0 <+: sh) (hF : px_Fx M0) (hG : px_RG sh M0)  {lb c : Nat} (hlaw : M0 228 34 = ((lb : Nat) : Int)) (hlb : lb ≤ 4610) (hc : c < 12) {x : sp_C} (hx : rl_cl (M0 230) lb c x) {ev : Nat → Int} (hst : stE M0 ev) (hbn : px_bnd ev) (hord : M0 228 20 = 0) : ∃ M, (px_qk sh [228, 248] M0 M ∧ (∀ y, x.2.1 ev = some 1 → x.2.2 ev = some y → x.1 ≠ 3 → M 228 40 = y) ∧ (rq M0 M) ∧ (M 228 34 = M0 228 34)) ∧ px_Cl xs L d 190 [.ref 228, .int (iI (((2 + 8 * c + lb : Nat) : Int)))] (sh, M0) (some (.int (iI (bI (x.2.1 ev = some 1 ∧ (x.2.2 ev).isSome = true))))) (sh, M) := by
  obtain ⟨d, rfl⟩ : ∃ e, d = e + 1 := ⟨d - 1, by omega⟩
  have q0 : px_qk sh [228, 248] M0 M0 := ⟨hF, hG, eo_rf⟩
  obtain ⟨hkx1, hkx2, ⟨a1, b1, ha1, hb1, hab, hb1l, ht⟩, ⟨a2, b2, ha2, hb2, hab2, hb2l, hs⟩⟩ := hx
  obtain ⟨ht0, ht1, ht2⟩ := ht ev hbn
  obtain ⟨hs1, hs2⟩ := hs ev hbn
  refine vc_n (Nat.le_of_ble_eq_true rfl) ?_
  show px_R xs L d 190 (0, [.ref 228, .int (iI (((2 + 8 * c + lb : Nat) : Int)))], [], (sh, M0)) (fun r h' => r = some (.int (iI (bI (x.2.1 ev = some 1 ∧ (x.2.2 ev).isSome = true)))) ∧ ∃ M', h' = (sh, M') ∧ px_qk sh [228, 248] M0 M' ∧ (∀ y, x.2.1 ev = some 1 → x.2.2 ev = some y → x.1 ≠ 3 → M' 228 40 = y) ∧ rq M0 M' ∧ M' 228 34 = M0 228 34)
  refine rr_aload_n pf_190_0 rfl ?_
  refine rr_getR pf_190_1 po_190 pg_9_13 rfl (ws_228 hW) (by decide) (wr_228_3 q0.1) ?_
  refine rr_iload_n pf_190_4 rfl ?_
  refine rr_iconst pf_190_5 ?_
  refine rr_iadd pf_190_6 ?_
  refine vr_iald (j := 7 + 8 * c + lb) q0 pf_190_7 (ws_230 hW) (by omega) (by omega) (by decide) (fun x1 hx1 rx1 => ?_)
  rw [ha1] at hx1
  refine rr_aload_n pf_190_8 rfl ?_
  refine rr_getR pf_190_9 po_190 pg_9_13 rfl (ws_228 hW) (by decide) (wr_228_3 q0.1) ?_
  refine rr_iload_n pf_190_12 rfl ?_
  refine rr_bipush pf_190_13 (by decide) ?_
  refine rr_iadd pf_190_15 ?_
  refine vr_iald (j := 8 + 8 * c + lb) q0 pf_190_16 (ws_230 hW) (by omega) (by omega) (by decide) (fun x2 hx2 rx2 => ?_)
  rw [hb1] at hx2
  refine rr_icmp_ge 59 pf_190_17 (by decide) rx1 rx2 (fun c3 => ?_) (fun c3 => ?_)
  · have hT1 : x.2.1 ev = some 1 := ht1 (by omega)
    refine rr_aload_n pf_190_59 rfl ?_
    refine rr_getR pf_190_60 po_190 pg_9_13 rfl (ws_228 hW) (by decide) (wr_228_3 q0.1) ?_
    refine rr_iload_n pf_190_63 rfl ?_
    refine vr_iald (j := 2 + 8 * c + lb) q0 pf_190_64 (ws_230 hW) (by omega) (by omega) (by decide) (fun x4 hx4 rx4 => ?_)
    rw [hkx1] at hx4
    refine rr_iconst pf_190_65 ?_
    refine rr_icmp_eq 110 pf_190_66 (by decide) rx4 (by unfold rg; omega) (fun c5 => ?_) (fun c5 => ?_)
    · refine rr_iconst pf_190_110 ?_
      refine rr_zret pf_190_111 pt_190 (by first | exact Or.inl rfl | exact Or.inr rfl | omega) ⟨by rw [bI_t (by exact ⟨hT1, by first | exact hS1 | rw [hs1 (by omega)]; rfl⟩)], M0, rfl, q0, (by intro y h1 h2 h3; exfalso; omega), ((rq_rf M0)), (by rfl)⟩
    · refine rr_aload_n pf_190_69 rfl ?_
      refine rr_aload_n pf_190_70 rfl ?_
      refine rr_getR pf_190_71 po_190 pg_9_13 rfl (ws_228 hW) (by decide) (wr_228_3 q0.1) ?_
      refine rr_iload_n pf_190_74 rfl ?_
      refine rr_iconst pf_190_75 ?_
      refine rr_iadd pf_190_76 ?_
      refine vr_iald (j := 5 + 8 * c + lb) q0 pf_190_77 (ws_230 hW) (by omega) (by omega) (by decide) (fun x6 hx6 rx6 => ?_)
      rw [ha2] at hx6
      refine rr_aload_n pf_190_78 rfl ?_
      refine rr_getR pf_190_79 po_190 pg_9_13 rfl (ws_228 hW) (by decide) (wr_228_3 q0.1) ?_
      refine rr_iload_n pf_190_82 rfl ?_
      refine rr_iconst pf_190_83 ?_
      refine rr_iadd pf_190_84 ?_
      refine vr_iald (j := 6 + 8 * c + lb) q0 pf_190_85 (ws_230 hW) (by omega) (by omega) (by decide) (fun x7 hx7 rx7 => ?_)
      rw [hb2] at hx7
      obtain ⟨f_M8, res_M8, he_M8, hy_M8⟩ := hs2 (by omega)
      obtain ⟨M8, ⟨kq9, po_M8, pf_M8⟩, hcM8⟩ := ct_R_reckonAll (xs := xs) (L := L) (d := d) (fst := a2) (last := b2) (f0 := f_M8) (lf := lfL2 ev) (res := res_M8) (by omega) hW q0.1 q0.2.1 hord (lb := lb) hlaw hlb (by omega) (by omega) (lfL2_ok hst hbn) he_M8
      rw [show ((a2 : Nat) : Int) = x6 by omega, show ((b2 : Nat) : Int) = x7 by omega] at hcM8
      have q9 := qk_trm q0 kq9 (by decide)
      have rq10 := rq_mk (rq_rf M0) pf_M8
      refine rr_cV2 pf_190_86 po_190 pc_9_444 (ws_228 hW) po_191 (by decide) rfl hcM8 ?_
      refine rr_aload_n pf_190_89 rfl ?_
      refine rr_aload_n pf_190_90 rfl ?_
      refine vr_getL q9 pf_190_91 po_190 pg_9_441 rfl (ws_228 hW) (by decide) (fun x11 hx11 rx11 => ?_)
      refine vr_putL hW q9 pf_190_94 po_190 pg_9_447 (Or.inl rfl) rfl (ws_228 hW) (by decide) rx11 (by decide) (fun M12 eM12 q13 => ?_)
      have rq14 := rq_up rq10 eM12 (by decide)
      refine rr_aload_n pf_190_97 rfl ?_
      refine vr_getZ q13 pf_190_98 po_190 pg_9_427 rfl (ws_228 hW) (by decide) (fun x15 hx15 rx15 => ?_)
      rw [eM12, up_ne (by decide)] at hx15
      refine rr_if_ne 108 pf_190_101 (by decide) rx15 (fun c16 => ?_) (fun c16 => ?_)
      · have hS0 : ¬ (x.2.2 ev).isSome = true := by
          rcases hy_M8 with ⟨a, b⟩ | ⟨z, s, a, b, e, _⟩
          · rw [a]; decide
          · exfalso; rcases po_M8 with ⟨f, _⟩ | ⟨s2, f, f1, g⟩
            · rw [b] at f; cases f
            · omega
        refine rr_iconst pf_190_108 ?_
        refine rr_zret pf_190_109 pt_190 (by first | exact Or.inl rfl | exact Or.inr rfl | omega) ⟨by rw [bI_f (by first | exact fun z => hT0 z.1 | exact fun z => hS0 z.2)], M12, rfl, q13, (by intro y h1 h2 h3; exfalso; exact hS0 (by rw [h2]; rfl)), (rq14), (by rw [eM12, up_ne (by decide), (pf_M8 34 (by decide) (by decide))])⟩
      · have hS1 : (x.2.2 ev).isSome = true := by
          rcases hy_M8 with ⟨a, b⟩ | ⟨z, s, a, b, e, _⟩
          · exfalso; rcases po_M8 with ⟨_, f⟩ | ⟨s, f, _⟩
            · omega
            · rw [b] at f; cases f
          · rw [a]; rfl
        refine rr_iconst pf_190_104 ?_
        refine rr_goto 109 pf_190_105 (by decide) ?_
        refine rr_zret pf_190_109 pt_190 (by first | exact Or.inl rfl | exact Or.inr rfl | omega) ⟨by rw [bI_t (by exact ⟨hT1, by first | exact hS1 | rw [hs1 (by omega)]; rfl⟩)], M12, rfl, q13, (by
                      intro y h1 h2 h3; rw [eM12, up_s]; rcases hy_M8 with ⟨a, _⟩ | ⟨z, s, a, b, e, _⟩
                      rw [a] at h2; cases h2
                      rw [a] at h2; cases h2
                      rcases po_M8 with ⟨f, _⟩ | ⟨s2, f, _, g⟩
                      rw [b] at f; cases f
                      rw [b] at f; cases f; omega), (rq14), (by rw [eM12, up_ne (by decide), (pf_M8 34 (by decide) (by decide))])⟩
  · refine rr_aload_n pf_190_20 rfl ?_
    refine rr_aload_n pf_190_21 rfl ?_
    refine rr_getR pf_190_22 po_190 pg_9_13 rfl (ws_228 hW) (by decide) (wr_228_3 q0.1) ?_
    refine rr_iload_n pf_190_25 rfl ?_
    refine rr_iconst pf_190_26 ?_
    refine rr_iadd pf_190_27 ?_
    refine vr_iald (j := 7 + 8 * c + lb) q0 pf_190_28 (ws_230 hW) (by omega) (by omega) (by decide) (fun x17 hx17 rx17 => ?_)
    rw [ha1] at hx17
    refine rr_aload_n pf_190_29 rfl ?_
    refine rr_getR pf_190_30 po_190 pg_9_13 rfl (ws_228 hW) (by decide) (wr_228_3 q0.1) ?_
    refine rr_iload_n pf_190_33 rfl ?_
    refine rr_bipush pf_190_34 (by decide) ?_
    refine rr_iadd pf_190_36 ?_
    refine vr_iald (j := 8 + 8 * c + lb) q0 pf_190_37 (ws_230 hW) (by omega) (by omega) (by decide) (fun x18 hx18 rx18 => ?_)
    rw [hb1] at hx18
    obtain ⟨f_M19, res_M19, he_M19, hy_M19⟩ := ht2 (by omega)
    obtain ⟨M19, ⟨kq20, po_M19, pf_M19⟩, hcM19⟩ := ct_R_reckonAll (xs := xs) (L := L) (d := d) (fst := a1) (last := b1) (f0 := f_M19) (lf := lfL2 ev) (res := res_M19) (by omega) hW q0.1 q0.2.1 hord (lb := lb) hlaw hlb (by omega) (by omega) (lfL2_ok hst hbn) he_M19
    rw [show ((a1 : Nat) : Int) = x17 by omega, show ((b1 : Nat) : Int) = x18 by omega] at hcM19
    have q20 := qk_trm q0 kq20 (by decide)
    have rq21 := rq_mk (rq_rf M0) pf_M19
    refine rr_cV2 pf_190_38 po_190 pc_9_444 (ws_228 hW) po_191 (by decide) rfl hcM19 ?_
    refine rr_aload_n pf_190_41 rfl ?_
    refine vr_getZ q20 pf_190_42 po_190 pg_9_427 rfl (ws_228 hW) (by decide) (fun x22 hx22 rx22 => ?_)
    refine rr_if_ne 57 pf_190_45 (by decide) rx22 (fun c23 => ?_) (fun c23 => ?_)
    · have hT0 : ¬ x.2.1 ev = some 1 := by
        intro hz
        rcases hy_M19 with ⟨a, b⟩ | ⟨z, s, a, b, e, _⟩
        · rw [a] at hz; cases hz
        · rw [hz] at a; cases a
          rcases po_M19 with ⟨f, _⟩ | ⟨s2, f, f1, g⟩
          · rw [b] at f; cases f
          · rw [b] at f; cases f; omega
      refine rr_iconst pf_190_57 ?_
      refine rr_zret pf_190_58 pt_190 (by first | exact Or.inl rfl | exact Or.inr rfl | omega) ⟨by rw [bI_f (by first | exact fun z => hT0 z.1 | exact fun z => hS0 z.2)], M19, rfl, q20, (by intro y h1 h2 h3; exfalso; exact hT0 h1), (rq21), (by rw [(pf_M19 34 (by decide) (by decide))])⟩
    · refine rr_aload_n pf_190_48 rfl ?_
      refine vr_getL q20 pf_190_49 po_190 pg_9_441 rfl (ws_228 hW) (by decide) (fun x24 hx24 rx24 => ?_)
      refine rr_lconst (w := 0) pf_190_52 rfl ?_
      refine rr_lcmp pf_190_53 rx24 (by unfold rl; omega) ?_
      refine rr_ifc_ne 59 pf_190_54 (by decide) (fun c25 => ?_) (fun c25 => ?_)
      · have hT1 : x.2.1 ev = some 1 := by
          rcases hy_M19 with ⟨a, b⟩ | ⟨z, s, a, b, e, _⟩
          · exfalso; rcases po_M19 with ⟨_, f⟩ | ⟨s, f, _⟩
            · omega
            · rw [b] at f; cases f
          · rcases po_M19 with ⟨f, _⟩ | ⟨s2, f, _, g⟩
            · rw [b] at f; cases f
            · rw [b] at f; cases f; rcases ht0 z a with h0 | h0
              · exfalso; omega
              · rw [a, h0]
        refine rr_aload_n pf_190_59 rfl ?_
        refine rr_getR pf_190_60 po_190 pg_9_13 rfl (ws_228 hW) (by decide) (wr_228_3 q20.1) ?_
        refine rr_iload_n pf_190_63 rfl ?_
        refine vr_iald (j := 2 + 8 * c + lb) q20 pf_190_64 (ws_230 hW) (by omega) (by omega) (by decide) (fun x26 hx26 rx26 => ?_)
        rw [q20.2.2 230 (by decide)] at hx26
        rw [hkx1] at hx26
        refine rr_iconst pf_190_65 ?_
        refine rr_icmp_eq 110 pf_190_66 (by decide) rx26 (by unfold rg; omega) (fun c27 => ?_) (fun c27 => ?_)
        · refine rr_iconst pf_190_110 ?_
          refine rr_zret pf_190_111 pt_190 (by first | exact Or.inl rfl | exact Or.inr rfl | omega) ⟨by rw [bI_t (by exact ⟨hT1, by first | exact hS1 | rw [hs1 (by omega)]; rfl⟩)], M19, rfl, q20, (by intro y h1 h2 h3; exfalso; omega), (rq21), (by rw [(pf_M19 34 (by decide) (by decide))])⟩
        · refine rr_aload_n pf_190_69 rfl ?_
          refine rr_aload_n pf_190_70 rfl ?_
          refine rr_getR pf_190_71 po_190 pg_9_13 rfl (ws_228 hW) (by decide) (wr_228_3 q20.1) ?_
          refine rr_iload_n pf_190_74 rfl ?_
          refine rr_iconst pf_190_75 ?_
          refine rr_iadd pf_190_76 ?_
          refine vr_iald (j := 5 + 8 * c + lb) q20 pf_190_77 (ws_230 hW) (by omega) (by omega) (by decide) (fun x28 hx28 rx28 => ?_)
          rw [q20.2.2 230 (by decide)] at hx28
          rw [ha2] at hx28
          refine rr_aload_n pf_190_78 rfl ?_
          refine rr_getR pf_190_79 po_190 pg_9_13 rfl (ws_228 hW) (by decide) (wr_228_3 q20.1) ?_
          refine rr_iload_n pf_190_82 rfl ?_
          refine rr_iconst pf_190_83 ?_
          refine rr_iadd pf_190_84 ?_
          refine vr_iald (j := 6 + 8 * c + lb) q20 pf_190_85 (ws_230 hW) (by omega) (by omega) (by decide) (fun x29 hx29 rx29 => ?_)
          rw [q20.2.2 230 (by decide)] at hx29
          rw [hb2] at hx29
          obtain ⟨f_M30, res_M30, he_M30, hy_M30⟩ := hs2 (by omega)
          obtain ⟨M30, ⟨kq31, po_M30, pf_M30⟩, hcM30⟩ := ct_R_reckonAll (xs := xs) (L := L) (d := d) (fst := a2) (last := b2) (f0 := f_M30) (lf := lfL2 ev) (res := res_M30) (by omega) hW q20.1 q20.2.1 ((rq21 20 (by decide)).trans hord) (lb := lb) (by rw [(pf_M19 34 (by decide) (by decide))]; exact hlaw) hlb (by omega) (by omega) (lfL2_ok (stE_q q20 (by decide) hst) hbn) (by rw [lwO_q q20 (by decide), lwA_q q20 (by decide)]; exact he_M30)
          rw [show ((a2 : Nat) : Int) = x28 by omega, show ((b2 : Nat) : Int) = x29 by omega] at hcM30
          have q31 := qk_trm q20 kq31 (by decide)
          have rq32 := rq_mk rq21 pf_M30
          refine rr_cV2 pf_190_86 po_190 pc_9_444 (ws_228 hW) po_191 (by decide) rfl hcM30 ?_
          refine rr_aload_n pf_190_89 rfl ?_
          refine rr_aload_n pf_190_90 rfl ?_
          refine vr_getL q31 pf_190_91 po_190 pg_9_441 rfl (ws_228 hW) (by decide) (fun x33 hx33 rx33 => ?_)
          refine vr_putL hW q31 pf_190_94 po_190 pg_9_447 (Or.inl rfl) rfl (ws_228 hW) (by decide) rx33 (by decide) (fun M34 eM34 q35 => ?_)
          have rq36 := rq_up rq32 eM34 (by decide)
          refine rr_aload_n pf_190_97 rfl ?_
          refine vr_getZ q35 pf_190_98 po_190 pg_9_427 rfl (ws_228 hW) (by decide) (fun x37 hx37 rx37 => ?_)
          rw [eM34, up_ne (by decide)] at hx37
          refine rr_if_ne 108 pf_190_101 (by decide) rx37 (fun c38 => ?_) (fun c38 => ?_)
          · have hS0 : ¬ (x.2.2 ev).isSome = true := by
              rcases hy_M30 with ⟨a, b⟩ | ⟨z, s, a, b, e, _⟩
              · rw [a]; decide
              · exfalso; rcases po_M30 with ⟨f, _⟩ | ⟨s2, f, f1, g⟩
                · rw [b] at f; cases f
                · omega
            refine rr_iconst pf_190_108 ?_
            refine rr_zret pf_190_109 pt_190 (by first | exact Or.inl rfl | exact Or.inr rfl | omega) ⟨by rw [bI_f (by first | exact fun z => hT0 z.1 | exact fun z => hS0 z.2)], M34, rfl, q35, (by intro y h1 h2 h3; exfalso; exact hS0 (by rw [h2]; rfl)), (rq36), (by rw [eM34, up_ne (by decide), (pf_M30 34 (by decide) (by decide)), (pf_M19 34 (by decide) (by decide))])⟩
          · have hS1 : (x.2.2 ev).isSome = true := by
              rcases hy_M30 with ⟨a, b⟩ | ⟨z, s, a, b, e, _⟩
              · exfalso; rcases po_M30 with ⟨_, f⟩ | ⟨s, f, _⟩
                · omega
                · rw [b] at f; cases f
              · rw [a]; rfl
            refine rr_iconst pf_190_104 ?_
            refine rr_goto 109 pf_190_105 (by decide) ?_
            refine rr_zret pf_190_109 pt_190 (by first | exact Or.inl rfl | exact Or.inr rfl | omega) ⟨by rw [bI_t (by exact ⟨hT1, by first | exact hS1 | rw [hs1 (by omega)]; rfl⟩)], M34, rfl, q35, (by
                              intro y h1 h2 h3; rw [eM34, up_s]; rcases hy_M30 with ⟨a, _⟩ | ⟨z, s, a, b, e, _⟩
                              rw [a] at h2; cases h2
                              rw [a] at h2; cases h2
                              rcases po_M30 with ⟨f, _⟩ | ⟨s2, f, _, g⟩
                              rw [b] at f; cases f
                              rw [b] at f; cases f; omega), (rq36), (by rw [eM34, up_ne (by decide), (pf_M30 34 (by decide) (by decide)), (pf_M19 34 (by decide) (by decide))])⟩
      · have hT0 : ¬ x.2.1 ev = some 1 := by
          intro hz
          rcases hy_M19 with ⟨a, b⟩ | ⟨z, s, a, b, e, _⟩
          · rw [a] at hz; cases hz
          · rw [hz] at a; cases a
            rcases po_M19 with ⟨f, _⟩ | ⟨s2, f, f1, g⟩
            · rw [b] at f; cases f
            · rw [b] at f; cases f; omega
        refine rr_iconst pf_190_57 ?_
        refine rr_zret pf_190_58 pt_190 (by first | exact Or.inl rfl | exact Or.inr rfl | omega) ⟨by rw [bI_f (by first | exact fun z => hT0 z.1 | exact fun z => hS0 z.2)], M19, rfl, q20, (by intro y h1 h2 h3; exfalso; exact hT0 h1), (rq21), (by rw [(pf_M19 34 (by decide) (by decide))])⟩
theorem tell_take {lw : List sp_C} {c : Nat} {x : sp_C} (h : lw[c]? = some x) (kd : Int) (v : sp_E) : sp_tell (lw.take (c + 1)) kd v = (sp_hold x kd v).or (sp_tell (lw.take c) kd v) := by
  rw [show lw.take (c + 1) = lw.take c ++ [x] by rw [List.take_succ, h]; rfl, sp_tell_snoc]
theorem rl_tell_b {g : Nat → Int} {lb : Nat} {lw : List sp_C} (h : rl_den g lb lw) {kd : Int} {v : Nat → Int} (hv : px_bnd v) {y : Int} (hy : sp_tell lw kd v = some y) : -1000000000 ≤ y ∧ y ≤ 1000000001 := by
  unfold sp_tell at hy
  obtain ⟨x, hx, hz⟩ := List.exists_of_findSome?_eq_some hy
  rw [List.mem_reverse] at hx
  obtain ⟨i, hi, rfl⟩ := List.getElem_of_mem hx
  obtain ⟨x, hx1, hx2, _, _, ⟨a, b, _, _, _, _, hs⟩⟩ := h.2.2 i hi
  rw [List.getElem?_eq_getElem hi] at hx1
  cases hx1
  unfold sp_hold at hz
  split at hz
  · rename_i h1
    obtain ⟨s1, s2⟩ := hs v hv
    by_cases h3 : lw[i].1 = 3
    · rw [s1 h3] at hz; cases hz; omega
    · obtain ⟨f, res, _, hr⟩ := s2 h3
      rcases hr with ⟨a, _⟩ | ⟨z, s, a, _, _, b, c⟩
      · rw [a] at hz; cases hz
      · rw [a] at hz; cases hz; exact ⟨b, c⟩
  · cases hz
theorem lp_R_tells_35 {xs : Nat → Int} {L d : Nat} {sh : List (Nat × Nat)} (hd : 4 ≤ d) (hW : px_W0 <+: sh) {M0 : Nat → Nat → Int}  {lw : List sp_C} {ev : Nat → Int} (hst : stE M0 ev) (hbn : px_bnd ev) (hord : M0 228 20 = 0) {kd : Int} (hkd : 0 ≤ kd ∧ kd ≤ 3) {wo : Int} (hwo : -1000000000 ≤ wo ∧ wo ≤ 1000000001) {lb : Nat} (hlb : lb ≤ 4610) (hden : rl_den (M0 230) lb lw) {Q : Option Value → px_H → Prop} (kx : ∀ (td : Int) (c : Nat) (v7 : Value) (M : Nat → Nat → Int), px_qk sh [228, 248] M0 M → (rq M0 M) → (td = (sp_tell lw kd ev).getD wo) → px_R xs L d 189 (106, [.ref 228, .int (iI (kd)), .long (lI (wo)), px_jk, .long (lI (td)), px_jk, .int (iI (((c : Nat) : Int))), v7], [], (sh, M)) Q)  : ∀ (m : Nat) (td : Int) (c : Nat) (v7 : Value) (M : Nat → Nat → Int), lw.length - c = m → px_qk sh [228, 248] M0 M → (rq M0 M) → (M 228 34 = ((lb : Nat) : Int)) → (c ≤ lw.length) → (td = (sp_tell (lw.take c) kd ev).getD wo) → px_R xs L d 189 (35, [.ref 228, .int (iI (kd)), .long (lI (wo)), px_jk, .long (lI (td)), px_jk, .int (iI (((c : Nat) : Int))), v7], [], (sh, M)) Q := by
  intro m
  induction m using Nat.strongRecOn with
  | _ m ih =>
    intro td c v7 M hm hq hrq h34 hcl htd
    refine rr_iload pf_189_35 rfl ?_
    refine rr_aload_n pf_189_37 rfl ?_
    refine rr_getR pf_189_38 po_189 pg_9_13 rfl (ws_228 hW) (by decide) (wr_228_3 hq.1) ?_
    refine rr_aload_n pf_189_41 rfl ?_
    refine vr_getI hq pf_189_42 po_189 pg_9_430 rfl (ws_228 hW) (by decide) (fun x1 hx1 rx1 => ?_)
    rw [h34] at hx1
    refine rr_iconst pf_189_45 ?_
    refine rr_iadd pf_189_46 ?_
    refine vr_iald (j := 1 + lb) hq pf_189_47 (ws_230 hW) (by omega) (by omega) (by decide) (fun x2 hx2 rx2 => ?_)
    rw [hq.2.2 230 (by decide)] at hx2
    rw [show M0 230 (1 + lb) = ((lw.length : Nat) : Int) from hden.1] at hx2
    refine rr_icmp_ge 106 pf_189_48 (by decide) (by unfold rg; omega) rx2 (fun c3 => ?_) (fun c3 => ?_)
    · exact kx td c _ M hq (hrq) (by rw [htd, List.take_of_length_le (by omega)])
    · obtain ⟨x0, hxc0, hxc⟩ := hden.2.2 c (by omega)
      have hxc1 := hxc.1
      have h12 := hden.2.1
      refine rr_aload_n pf_189_51 rfl ?_
      refine vr_getI hq pf_189_52 po_189 pg_9_430 rfl (ws_228 hW) (by decide) (fun x4 hx4 rx4 => ?_)
      rw [h34] at hx4
      refine rr_iconst pf_189_55 ?_
      refine rr_iadd pf_189_56 ?_
      refine rr_bipush pf_189_57 (by decide) ?_
      refine rr_iload pf_189_59 rfl ?_
      refine rr_imul pf_189_61 ?_
      refine rr_iadd pf_189_62 ?_
      refine rr_istore pf_189_63 (fun y => [.ref 228, .int (iI (kd)), .long (lI (wo)), px_jk, .long (lI (td)), px_jk, .int (iI (((c : Nat) : Int))), .int (iI (y))]) (Nat.le_of_ble_eq_true rfl) (fun _ => rfl) (fun y5 hy5 => ?_)
      refine rr_aload_n pf_189_65 rfl ?_
      refine rr_getR pf_189_66 po_189 pg_9_13 rfl (ws_228 hW) (by decide) (wr_228_3 hq.1) ?_
      refine rr_iload pf_189_69 rfl ?_
      refine vr_iald (j := 2 + 8 * c + lb) hq pf_189_71 (ws_230 hW) (by omega) (by omega) (by decide) (fun x6 hx6 rx6 => ?_)
      rw [hq.2.2 230 (by decide)] at hx6
      rw [hxc1] at hx6
      refine rr_iload_n pf_189_72 rfl ?_
      refine rr_icmp_ne 100 pf_189_73 (by decide) rx6 (by unfold rg; omega) (fun c7 => ?_) (fun c7 => ?_)
      · refine rr_iinc pf_189_100 rfl (fun y => [.ref 228, .int (iI (kd)), .long (lI (wo)), px_jk, .long (lI (td)), px_jk, .int (iI (y)), .int (iI (y5))]) (fun _ => rfl) (fun y8 hy8 => ?_)
        refine rr_goto 35 pf_189_103 (by decide) ?_
        obtain ⟨n9, hn9, rfl⟩ : ∃ zz : Nat, zz = 1 + c ∧ y8 = ((zz : Nat) : Int) := ⟨1 + c, rfl, by omega⟩
        exact ih _ (by omega) td n9 _ M rfl hq (hrq) (h34) (by omega) (by rw [show n9 = c + 1 by omega, tell_take hxc0, show sp_hold x0 kd ev = none by unfold sp_hold; rw [if_neg (fun z => by have := z.1; omega)]]; exact htd)
      · refine rr_aload_n pf_189_76 rfl ?_
        refine rr_iload pf_189_77 rfl ?_
        obtain ⟨M10, ⟨kq11, ps_M10, pf_M10, p34_M10⟩, hcM10⟩ := ct_R_isSo (xs := xs) (L := L) (d := d) (lb := lb) (c := c) (x := x0) (ev := ev) (by omega) hW hq.1 hq.2.1 h34 hlb (by omega) (by rw [hq.2.2 230 (by decide)]; exact hxc) (stE_q hq (by decide) hst) (by omega) ((hrq 20 (by decide)).trans hord)
        rw [show ((2 + 8 * c + lb : Nat) : Int) = y5 by omega] at hcM10
        have q11 := qk_trm hq kq11 (by decide)
        have rq13 := rq_tr hrq pf_M10
        refine rr_cV1 pf_189_79 po_189 pc_9_450 (ws_228 hW) po_190 (by decide) rfl hcM10 ?_
        
        refine rr_ifb_eq 100 pf_189_82 (by decide) (fun c14 => ?_) (fun c14 => ?_)
        · have hso := c14
          refine rr_iinc pf_189_100 rfl (fun y => [.ref 228, .int (iI (kd)), .long (lI (wo)), px_jk, .long (lI (td)), px_jk, .int (iI (y)), .int (iI (y5))]) (fun _ => rfl) (fun y15 hy15 => ?_)
          refine rr_goto 35 pf_189_103 (by decide) ?_
          obtain ⟨n16, hn16, rfl⟩ : ∃ zz : Nat, zz = 1 + c ∧ y15 = ((zz : Nat) : Int) := ⟨1 + c, rfl, by omega⟩
          exact ih _ (by omega) td n16 _ M10 rfl q11 (rq13) (by exact (by rw [p34_M10]; exact h34)) (by omega) (by rw [show n16 = c + 1 by omega, tell_take hxc0, show sp_hold x0 kd ev = none by unfold sp_hold; split; (rename_i z; cases hz : x0.2.2 ev; rfl; exact absurd ⟨z.2, by rw [hz]; rfl⟩ hso); rfl]; exact htd)
        · have hso := c14
          refine rr_iload_n pf_189_85 rfl ?_
          refine rr_iconst pf_189_86 ?_
          refine rr_icmp_ne 94 pf_189_87 (by decide) (by unfold rg; omega) (by unfold rg; omega) (fun c17 => ?_) (fun c17 => ?_)
          · refine rr_aload_n pf_189_94 rfl ?_
            refine vr_getL q11 pf_189_95 po_189 pg_9_447 rfl (ws_228 hW) (by decide) (fun x18 hx18 rx18 => ?_)
            refine rr_lstore pf_189_98 (fun y => [.ref 228, .int (iI (kd)), .long (lI (wo)), px_jk, .long (lI (y)), px_jk, .int (iI (((c : Nat) : Int))), .int (iI (y5))]) (Nat.le_of_ble_eq_true rfl) (fun _ => rfl) (fun y19 hy19 => ?_)
            have ry19 : rl y19 := hy19 ▸ rx18
            refine rr_iinc pf_189_100 rfl (fun y => [.ref 228, .int (iI (kd)), .long (lI (wo)), px_jk, .long (lI (y19)), px_jk, .int (iI (y)), .int (iI (y5))]) (fun _ => rfl) (fun y20 hy20 => ?_)
            refine rr_goto 35 pf_189_103 (by decide) ?_
            obtain ⟨n21, hn21, rfl⟩ : ∃ zz : Nat, zz = 1 + c ∧ y20 = ((zz : Nat) : Int) := ⟨1 + c, rfl, by omega⟩
            exact ih _ (by omega) y19 n21 _ M10 rfl q11 (rq13) (by exact (by rw [p34_M10]; exact h34)) (by omega) (by
                              rw [show n21 = c + 1 by omega, tell_take hxc0, show sp_hold x0 kd ev = x0.2.2 ev by unfold sp_hold; rw [if_pos ⟨by omega, hso.1⟩]]
                              obtain ⟨y9, hy9⟩ := Option.isSome_iff_exists.mp hso.2
                              rw [hy9]
                              show _ = y9
                              have := ps_M10 y9 hso.1 hy9 (by omega)
                              omega)
          · refine rr_lconst (w := 1) pf_189_90 rfl ?_
            refine rr_goto 98 pf_189_91 (by decide) ?_
            refine rr_lstore pf_189_98 (fun y => [.ref 228, .int (iI (kd)), .long (lI (wo)), px_jk, .long (lI (y)), px_jk, .int (iI (((c : Nat) : Int))), .int (iI (y5))]) (Nat.le_of_ble_eq_true rfl) (fun _ => rfl) (fun y22 hy22 => ?_)
            refine rr_iinc pf_189_100 rfl (fun y => [.ref 228, .int (iI (kd)), .long (lI (wo)), px_jk, .long (lI (y22)), px_jk, .int (iI (y)), .int (iI (y5))]) (fun _ => rfl) (fun y23 hy23 => ?_)
            refine rr_goto 35 pf_189_103 (by decide) ?_
            obtain ⟨n24, hn24, rfl⟩ : ∃ zz : Nat, zz = 1 + c ∧ y23 = ((zz : Nat) : Int) := ⟨1 + c, rfl, by omega⟩
            exact ih _ (by omega) y22 n24 _ M10 rfl q11 (rq13) (by exact (by rw [p34_M10]; exact h34)) (by omega) (by
                              rw [show n24 = c + 1 by omega, tell_take hxc0, show sp_hold x0 kd ev = x0.2.2 ev by unfold sp_hold; rw [if_pos ⟨by omega, hso.1⟩]]
                              obtain ⟨y9, hy9⟩ := Option.isSome_iff_exists.mp hso.2
                              rw [hy9]
                              show _ = y9
                              have := (hxc.2.2.2.choose_spec.choose_spec.2.2.2.2 ev hbn).1 (by omega)
                              rw [hy9] at this; cases this; omega)
theorem ct_R_tells {xs : Nat → Int} {L d : Nat} {sh : List (Nat × Nat)} {M0 : Nat → Nat → Int} (hd : 5 ≤ d) (hW : px_W0 <+: sh) (hF : px_Fx M0) (hG : px_RG sh M0)  {lw : List sp_C} (hlw : px_lwR M0 lw) {ev : Nat → Int} (hst : stE M0 ev) (hbn : px_bnd ev) (hord : M0 228 20 = 0) {kd : Int} (hkd : 0 ≤ kd ∧ kd ≤ 3) {wo : Int} (hwo : -1000000000 ≤ wo ∧ wo ≤ 1000000001) : ∃ v M, (px_qk sh [228, 248] M0 M ∧ (v = (sp_tell lw kd ev).getD wo) ∧ (rq M0 M)) ∧ px_Cl xs L d 189 [.ref 228, .int (iI (kd)), .long (lI (wo))] (sh, M0) (some (.long (lI v))) (sh, M) := by
  obtain ⟨d, rfl⟩ : ∃ e, d = e + 1 := ⟨d - 1, by omega⟩
  have q0 : px_qk sh [228, 248] M0 M0 := ⟨hF, hG, eo_rf⟩
  refine vc_l (Nat.le_of_ble_eq_true rfl) ?_
  show px_R xs L d 189 (0, [.ref 228, .int (iI (kd)), .long (lI (wo)), px_jk, px_jk, px_jk, px_jk, px_jk], [], (sh, M0)) (fun r h' => ∃ v M', r = some (.long (lI v)) ∧ h' = (sh, M') ∧ px_qk sh [228, 248] M0 M' ∧ v = (sp_tell lw kd ev).getD wo ∧ rq M0 M')
  refine rr_aload_n pf_189_0 rfl ?_
  refine rr_getR pf_189_1 po_189 pg_9_13 rfl (ws_228 hW) (by decide) (wr_228_3 q0.1) ?_
  refine rr_iconst pf_189_4 ?_
  refine vr_iald (j := 4) q0 pf_189_5 (ws_230 hW) (by omega) (by omega) (by decide) (fun x1 hx1 rx1 => ?_)
  have hl0 := hlw.1
  refine rr_iconst pf_189_6 ?_
  refine rr_icmp_ne 12 pf_189_7 (by decide) rx1 (by unfold rg; omega) (fun c2 => ?_) (fun c2 => ?_)
  · obtain ⟨n0, hn0, hn6, hden⟩ := hl0.resolve_left (fun z => by have := z.1; omega)
    refine rr_aload_n pf_189_12 rfl ?_
    refine rr_bipush pf_189_13 (by decide) ?_
    refine rr_sipush pf_189_15 (by decide) ?_
    refine rr_aload_n pf_189_18 rfl ?_
    refine rr_getR pf_189_19 po_189 pg_9_13 rfl (ws_228 hW) (by decide) (wr_228_3 q0.1) ?_
    refine rr_iconst pf_189_22 ?_
    refine vr_iald (j := 4) q0 pf_189_23 (ws_230 hW) (by omega) (by omega) (by decide) (fun x3 hx3 rx3 => ?_)
    rw [hn0] at hx3
    refine rr_imul pf_189_24 ?_
    refine rr_iadd pf_189_25 ?_
    refine vr_putI hW q0 pf_189_26 po_189 pg_9_430 (Or.inl rfl) rfl (ws_228 hW) (by decide) (by unfold rg; omega) (by decide) (fun M4 eM4 q5 => ?_)
    have rq6 := rq_up (rq_rf M0) eM4 (by decide)
    refine rr_lload_n pf_189_29 rfl ?_
    refine rr_lstore pf_189_30 (fun y => [.ref 228, .int (iI (kd)), .long (lI (wo)), px_jk, .long (lI (y)), px_jk, px_jk, px_jk]) (Nat.le_of_ble_eq_true rfl) (fun _ => rfl) (fun y7 hy7 => ?_)
    refine rr_iconst pf_189_32 ?_
    refine rr_istore pf_189_33 (fun y => [.ref 228, .int (iI (kd)), .long (lI (wo)), px_jk, .long (lI (y7)), px_jk, .int (iI (y)), px_jk]) (Nat.le_of_ble_eq_true rfl) (fun _ => rfl) (fun y8 hy8 => ?_)
    obtain ⟨n9, hn9, rfl⟩ : ∃ zz : Nat, zz = 0 ∧ y8 = ((zz : Nat) : Int) := ⟨0, rfl, by omega⟩
    refine lp_R_tells_35 (xs := xs) (L := L) (d := d) (by omega) hW hst hbn hord hkd hwo (by omega) hden (fun td_10 c_11 v14 M12 q13 xrq_M12 xtd_M12 => ?_) _ y7 n9 _ M4 rfl q5 (rq6) (by rw [eM4, up_s]; omega) (by omega) (by rw [show n9 = 0 by omega]; rw [List.take_zero]; exact hy7)
    refine rr_lload pf_189_106 rfl ?_
    refine rr_lret pf_189_108 pt_189 ⟨_, M12, rfl, rfl, q13, (xtd_M12), (xrq_M12)⟩
  · refine rr_lload_n pf_189_10 rfl ?_
    refine rr_lret pf_189_11 pt_189 ⟨_, M0, rfl, rfl, q0, (by
              rcases hl0 with ⟨_, z⟩ | ⟨n0, z, _⟩
              · rw [z]; rfl
              · exfalso; omega), ((rq_rf M0))⟩

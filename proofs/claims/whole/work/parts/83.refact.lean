/-! orders: what they mean; the reference's sums and acts -/
theorem fz_rq {X : List Nat} {M M2 M3 : Nat → Nat → Int} (h1 : fz X M M2) (h2 : rq M2 M3) (hX : ∀ j ∈ [34, 38, 39, 40], j ∈ X) : fz X M M3 := fun j hj => (h2 j (by
  have a : j ≠ 34 := fun z => hj (by rw [z]; exact hX 34 (by decide))
  have b : j ≠ 38 := fun z => hj (by rw [z]; exact hX 38 (by decide))
  have c : j ≠ 39 := fun z => hj (by rw [z]; exact hX 39 (by decide))
  have e : j ≠ 40 := fun z => hj (by rw [z]; exact hX 40 (by decide))
  omega)).trans (h1 j hj)
theorem fz_rs {X : List Nat} {M M2 M3 : Nat → Nat → Int} (h1 : fz X M M2) (h2 : rs M2 M3) (hX : ∀ j ∈ [8, 34, 38, 39, 40], j ∈ X) : fz X M M3 := fun j hj => (h2 j (fun z => hj (by rw [z]; exact hX 8 (by decide))) (by
  have a : j ≠ 34 := fun z => hj (by rw [z]; exact hX 34 (by decide))
  have b : j ≠ 38 := fun z => hj (by rw [z]; exact hX 38 (by decide))
  have c : j ≠ 39 := fun z => hj (by rw [z]; exact hX 39 (by decide))
  have e : j ≠ 40 := fun z => hj (by rw [z]; exact hX 40 (by decide))
  omega)).trans (h1 j hj)
theorem fz_rk {X : List Nat} {M M2 M3 : Nat → Nat → Int} (h1 : fz X M M2) (h2 : ∀ j, j ≠ 38 → j ≠ 39 → M3 228 j = M2 228 j) (hX : ∀ j ∈ [38, 39], j ∈ X) : fz X M M3 := fun j hj => (h2 j (fun z => hj (by rw [z]; exact hX 38 (by decide))) (fun z => hj (by rw [z]; exact hX 39 (by decide)))).trans (h1 j hj)
abbrev od_C : Type := Int × Nat × (sp_E → Option Int) × (sp_E → Option Int) × (sp_E → Option Int)
abbrev od_S : Type := (Nat → Int) × sp_T × Int × Int
def od_bnd (v : Nat → Int) : Prop := ∀ j, j < 59 → -1000000000 ≤ v j ∧ v j ≤ 1000000000
def od_env (lw : List sp_C) (ρ : Nat → Int) (dn lt : Int) : sp_E := fun j => if j = 0 then ρ 5 else if j = 1 then dn else if j = 2 then lt else if j = 3 then ρ 8 else if j = 4 then sp_nblk lw ρ 16 else if j < 53 then ρ (4 + j) else if ((j - 53 : Nat) : Int) < ρ 1 then ρ (10 + j) else -1
noncomputable def od_V (lw : List sp_C) (ρ : Nat → Int) (k a b : Int) : Int := if k = 0 then sp_preV lw ρ a else if k = 1 then sp_scrV ρ a b else if k = 2 then sp_walV ρ a else if k = 3 then sp_sitV ρ a b else sp_pasV ρ
noncomputable def od_R (lw : List sp_C) (ρ : Nat → Int) (k a b : Int) : Nat → Int := if k = 0 then sp_preW lw ρ a else if k = 1 then sp_scrR ρ a b else if k = 2 then sp_walR ρ a else if k = 3 then sp_sitR ρ a b else sp_pasW lw ρ
noncomputable def od_1 (lw : List sp_C) (c : od_C) (x : od_S) : Option od_S :=
  if c.2.2.1 (od_env lw x.1 x.2.2.1 x.2.2.2) = some 1 then
    (match c.2.2.2.1 (od_env lw x.1 x.2.2.1 x.2.2.2), c.2.2.2.2 (od_env lw x.1 x.2.2.1 x.2.2.2) with
     | some a, some b => if od_V lw x.1 c.1 a b < 0 then none else some (od_R lw x.1 c.1 a b, tpush x.2.1 (c.1, x.1), x.2.2.1 + 1, if c.1 = 0 then od_V lw x.1 c.1 a b else x.2.2.2)
     | _, _ => none)
  else some x
noncomputable def od_n (lw : List sp_C) (c : od_C) : Nat → od_S → Option od_S
  | 0, x => some x
  | n + 1, x => match od_1 lw c x with
    | none => none
    | some y => od_n lw c n y
noncomputable def od_L (lw : List sp_C) : List od_C → Nat → od_S → od_S ⊕ Nat
  | [], _, x => .inl x
  | c :: r, i, x => match od_n lw c c.2.1 x with
    | none => .inr i
    | some y => od_L lw r (i + 1) y
def rkd (k : Int) : Int := if k = 0 then 2 else if k = 1 then 0 else if k = 2 then 3 else if k = 3 then 1 else 4
theorem rkd_c {k : Int} (h : 0 ≤ k ∧ k ≤ 4) : (rkd k = 0 ∧ k = 1) ∨ (rkd k = 1 ∧ k = 3) ∨ (rkd k = 2 ∧ k = 0) ∨ (rkd k = 3 ∧ k = 2) ∨ (rkd k = 4 ∧ k = 4) := by
  unfold rkd
  split
  · omega
  · split
    · omega
    · split
      · omega
      · split <;> omega
theorem nblk_b (lw : List sp_C) (ρ : Nat → Int) : ∀ n : Nat, 0 ≤ sp_nblk lw ρ n ∧ sp_nblk lw ρ n ≤ n := by
  intro n
  induction n with
  | zero => simp [sp_nblk]
  | succ n ih => simp only [sp_nblk]; split <;> omega
theorem od_env_b {lw : List sp_C} {ρ : Nat → Int} (h : sp_ok ρ) {dn lt : Int} (hdn : 0 ≤ dn ∧ dn ≤ 1000) (hlt : -1 ≤ lt ∧ lt ≤ 1000) : od_bnd (od_env lw ρ dn lt) := by
  intro j hj
  have h5 := h.2.2.2.2.2.1
  have h8 := h.2.2.2.2.2.2.2.2.1
  have hn := nblk_b lw ρ 16
  unfold od_env
  split
  · omega
  · split
    · omega
    · split
      · omega
      · split
        · omega
        · split
          · omega
          · split
            · have := h.2.2.2.2.2.2.2.2.2.1 (j - 5) (by omega)
              rw [show 9 + (j - 5) = 4 + j by omega] at this
              omega
            · split
              · have := sp_spir_b h (l := j - 53) (by omega)
                rw [show 63 + (j - 53) = 10 + j by omega] at this
                omega
              · omega
def lfO (v : Nat → Int) (op arg : Int) : Option Int := if op = 0 then (if -1000000000 ≤ arg ∧ arg ≤ 1000000000 then some arg else none) else if 1 ≤ op ∧ op ≤ 5 then some (v (op - 1).toNat) else if 6 ≤ op ∧ op ≤ 8 ∧ 0 ≤ arg ∧ arg ≤ 15 then some (v (5 + 3 * arg + (op - 6)).toNat) else if op = 9 ∧ 0 ≤ arg ∧ arg ≤ 5 then some (v (53 + arg).toNat) else none
theorem lfO_ok {M : Nat → Nat → Int} {lw : List sp_C} {ρ : Nat → Int} {dn lt : Int} (h : ∀ j, j < 5 → M 247 (j + 1) = od_env lw ρ dn lt j) (hr : rr_ M = ρ) (hb : od_bnd (od_env lw ρ dn lt)) : ∀ op arg x, lfO (od_env lw ρ dn lt) op arg = some x → (-1000000000 ≤ x ∧ x ≤ 1000000000) ∧ ((op = 0 ∧ x = arg) ∨ (1 ≤ op ∧ op ≤ 5 ∧ x = M 247 op.toNat) ∨ (6 ≤ op ∧ op ≤ 8 ∧ 0 ≤ arg ∧ arg ≤ 15 ∧ x = M 230 (9 + 3 * arg + op - 6).toNat) ∨ (op = 9 ∧ 0 ≤ arg ∧ arg ≤ 5 ∧ ((arg < M 230 1 ∧ x = M 230 (63 + arg).toNat) ∨ (M 230 1 ≤ arg ∧ x = -1)))) := by
  intro op arg x hx
  unfold lfO at hx
  split at hx
  · split at hx
    · have := Option.some.inj hx; subst this
      exact ⟨by omega, Or.inl ⟨by omega, rfl⟩⟩
    · cases hx
  · split at hx
    · rename_i h1
      have := Option.some.inj hx; subst this
      refine ⟨hb _ (by omega), Or.inr (Or.inl ⟨h1.1, h1.2, ?_⟩)⟩
      rw [← h _ (by omega)]; congr 1; omega
    · split at hx
      · rename_i h1
        have := Option.some.inj hx; subst this
        refine ⟨hb _ (by omega), Or.inr (Or.inr (Or.inl ⟨h1.1, h1.2.1, h1.2.2.1, h1.2.2.2, ?_⟩))⟩
        unfold od_env
        rw [if_neg (by omega), if_neg (by omega), if_neg (by omega), if_neg (by omega), if_neg (by omega), if_pos (by omega), ← hr]
        unfold rr_
        rw [if_pos (by omega)]
        congr 1; omega
      · split at hx
        · rename_i h1
          have := Option.some.inj hx; subst this
          refine ⟨hb _ (by omega), Or.inr (Or.inr (Or.inr ⟨h1.1, h1.2.1, h1.2.2, ?_⟩))⟩
          have e1 : ρ 1 = M 230 1 := by rw [← hr]; unfold rr_; rw [if_pos (by omega)]
          unfold od_env
          rw [if_neg (by omega), if_neg (by omega), if_neg (by omega), if_neg (by omega), if_neg (by omega), if_neg (by omega)]
          split
          · rename_i h2
            refine Or.inl ⟨by omega, ?_⟩
            rw [← hr]; unfold rr_; rw [if_pos (by omega)]; congr 1; omega
          · rename_i h2
            exact Or.inr ⟨by omega, rfl⟩
        · cases hx
/-- a piece of an order of the reference means f -/
def roM (o a g : Nat → Int) (p : Nat) (f : sp_E → Option Int) (df : Int) : Prop := ∃ x y : Nat, g p = ((x : Nat) : Int) ∧ g (p + 1) = ((y : Nat) : Int) ∧ x ≤ y ∧ y ≤ 400 ∧ ∀ v, od_bnd v → (x = y → f v = some df) ∧ (x < y → rlM o a (lfO v) x y (f v))
def ro_cl (g o a : Nat → Int) (c : Nat) (x : od_C) : Prop := (0 ≤ x.1 ∧ x.1 ≤ 4) ∧ g (8 * c) = rkd x.1 ∧ g (8 * c + 7) = ((x.2.1 : Nat) : Int) ∧ x.2.1 ≤ 20 ∧ roM o a g (8 * c + 5) x.2.2.1 1 ∧ (∀ v y, od_bnd v → x.2.2.1 v = some y → y = 0 ∨ y = 1) ∧ roM o a g (8 * c + 1) x.2.2.2.1 (-1) ∧ roM o a g (8 * c + 3) x.2.2.2.2 (-1)
theorem ct_R_sumOf {xs : Nat → Int} {L d : Nat} {sh : List (Nat × Nat)} {M0 : Nat → Nat → Int} (hd : 4 ≤ d) (hW : px_W0 <+: sh) (hF : px_Fx M0) (hG : px_RG sh M0)  {p a b : Nat} (hp2 : p + 1 < 96) (hga : M0 262 p = ((a : Nat) : Int)) (hgb : M0 262 (p + 1) = ((b : Nat) : Int)) (hab : a ≤ b) (hb4 : b ≤ 400) (h58 : M0 228 58 = 0 ∨ M0 228 58 = 1) (h20 : M0 228 20 = 0) {lf : Int → Int → Option Int} (hlf : ∀ op arg x, lf op arg = some x → (-1000000000 ≤ x ∧ x ≤ 1000000000) ∧ ((op = 0 ∧ x = arg) ∨ (1 ≤ op ∧ op ≤ 5 ∧ x = M0 247 op.toNat) ∨ (6 ≤ op ∧ op ≤ 8 ∧ 0 ≤ arg ∧ arg ≤ 15 ∧ x = M0 230 (9 + 3 * arg + op - 6).toNat) ∨ (op = 9 ∧ 0 ≤ arg ∧ arg ≤ 5 ∧ ((arg < M0 230 1 ∧ x = M0 230 (63 + arg).toNat) ∨ (M0 230 1 ≤ arg ∧ x = -1))))) {y : Option Int} (hm : a < b → rlM (M0 239) (M0 240) lf a b y) (hy : a = b → y = some (-1)) : ∃ v M, (px_qk sh [228, 248] M0 M ∧ ((M0 228 58 = 1 ∧ M 228 58 = 1) ∨ (M0 228 58 = 0 ∧ ((y = none ∧ M 228 58 = 1) ∨ (∃ z, y = some z ∧ v = z ∧ M 228 58 = 0)))) ∧ (M 228 20 = 0) ∧ (fz [20, 38, 39, 58] M0 M)) ∧ px_Cl xs L d 296 [.ref 228, .int (iI (((p : Nat) : Int)))] (sh, M0) (some (.int (iI v))) (sh, M) := by
  obtain ⟨d, rfl⟩ : ∃ e, d = e + 1 := ⟨d - 1, by omega⟩
  have q0 : px_qk sh [228, 248] M0 M0 := ⟨hF, hG, eo_rf⟩
  refine vc_i (Nat.le_of_ble_eq_true rfl) ?_
  show px_R xs L d 296 (0, [.ref 228, .int (iI (((p : Nat) : Int)))], [], (sh, M0)) (fun r h' => ∃ v M', r = some (.int (iI v)) ∧ h' = (sh, M') ∧ px_qk sh [228, 248] M0 M' ∧ ((M0 228 58 = 1 ∧ M' 228 58 = 1) ∨ (M0 228 58 = 0 ∧ ((y = none ∧ M' 228 58 = 1) ∨ (∃ z, y = some z ∧ v = z ∧ M' 228 58 = 0)))) ∧ M' 228 20 = 0 ∧ fz [20, 38, 39, 58] M0 M')
  refine rr_aload_n pf_296_0 rfl ?_
  refine vr_getZ q0 pf_296_1 po_296 pg_9_570 rfl (ws_228 hW) (by decide) (fun x1 hx1 rx1 => ?_)
  refine rr_if_ne 24 pf_296_4 (by decide) rx1 (fun c2 => ?_) (fun c2 => ?_)
  · refine rr_iconst pf_296_24 ?_
    refine rr_iret pf_296_25 pt_296 ⟨_, M0, rfl, rfl, q0, (Or.inl ⟨by omega, by omega⟩), (h20), ((fz_rf [20, 38, 39, 58] M0))⟩
  · refine rr_aload_n pf_296_7 rfl ?_
    refine rr_getR pf_296_8 po_296 pg_9_165 rfl (ws_228 hW) (by decide) (wr_228_54 q0.1) ?_
    refine rr_iload_n pf_296_11 rfl ?_
    refine vr_iald (j := p) q0 pf_296_12 (ws_262 hW) (by omega) (by omega) (by decide) (fun x3 hx3 rx3 => ?_)
    rw [hga] at hx3
    refine rr_aload_n pf_296_13 rfl ?_
    refine rr_getR pf_296_14 po_296 pg_9_165 rfl (ws_228 hW) (by decide) (wr_228_54 q0.1) ?_
    refine rr_iload_n pf_296_17 rfl ?_
    refine rr_iconst pf_296_18 ?_
    refine rr_iadd pf_296_19 ?_
    refine vr_iald (j := (p + 1)) q0 pf_296_20 (ws_262 hW) (by omega) (by omega) (by decide) (fun x4 hx4 rx4 => ?_)
    rw [hgb] at hx4
    refine rr_icmp_ne 26 pf_296_21 (by decide) rx3 rx4 (fun c5 => ?_) (fun c5 => ?_)
    · refine rr_aload_n pf_296_26 rfl ?_
      refine rr_iconst pf_296_27 ?_
      refine vr_putZ hW q0 pf_296_28 po_296 pg_9_353 (Or.inl rfl) rfl (ws_228 hW) (by decide) (by omega) (by decide) (fun M6 eM6 q7 => ?_)
      have rq8 := fz_up (fz_rf [20, 38, 39, 58] M0) eM6 (by decide)
      refine rr_aload_n pf_296_31 rfl ?_
      refine rr_aload_n pf_296_32 rfl ?_
      refine rr_getR pf_296_33 po_296 pg_9_165 rfl (ws_228 hW) (by decide) (wr_228_54 q7.1) ?_
      refine rr_iload_n pf_296_36 rfl ?_
      refine vr_iald (j := p) q7 pf_296_37 (ws_262 hW) (by omega) (by omega) (by decide) (fun x9 hx9 rx9 => ?_)
      rw [q7.2.2 262 (by decide)] at hx9
      rw [hga] at hx9
      refine rr_aload_n pf_296_38 rfl ?_
      refine rr_getR pf_296_39 po_296 pg_9_165 rfl (ws_228 hW) (by decide) (wr_228_54 q7.1) ?_
      refine rr_iload_n pf_296_42 rfl ?_
      refine rr_iconst pf_296_43 ?_
      refine rr_iadd pf_296_44 ?_
      refine vr_iald (j := (p + 1)) q7 pf_296_45 (ws_262 hW) (by omega) (by omega) (by decide) (fun x10 hx10 rx10 => ?_)
      rw [q7.2.2 262 (by decide)] at hx10
      rw [hgb] at hx10
      obtain ⟨f_, res_, he_, hy_⟩ := hm (by omega)
      obtain ⟨M11, ⟨kq12, po_M11, pf_M11⟩, hcM11⟩ := ct_R_reckonAllO (xs := xs) (L := L) (d := d) (fst := a) (last := b) (f0 := f_) (lf := lf) (res := res_) (by omega) hW q7.1 q7.2.1 (by rw [eM6, up_s]) (by omega) (by omega) (by rw [eM6, ask_ne (by decide), ask_ne (by decide)]; exact hlf) (by rw [eM6, ask_ne (by decide), ask_ne (by decide)]; exact he_)
      rw [show ((a : Nat) : Int) = x9 by omega, show ((b : Nat) : Int) = x10 by omega] at hcM11
      have q12 := qk_trm q7 kq12 (by decide)
      have rq13 := fz_rk rq8 pf_M11 (by decide)
      have hres : (y = none ∧ M11 228 38 = 1) ∨ (∃ z, y = some z ∧ M11 228 38 = 0 ∧ M11 228 39 = z ∧ -1000000000 ≤ z ∧ z ≤ 1000000001) := by
        rcases hy_ with ⟨h1, h2⟩ | ⟨z, s, h1, h2, h3, h4⟩
        · rcases po_M11 with ⟨g1, g2⟩ | ⟨s', g1, g2, g3⟩
          · exact Or.inl ⟨h1, g2⟩
          · rw [h2] at g1; cases g1
        · rcases po_M11 with ⟨g1, g2⟩ | ⟨s', g1, g2, g3⟩
          · rw [h2] at g1; cases g1
          · rw [h2] at g1; cases g1
            exact Or.inr ⟨z, h1, g2, g3.trans h3, h4⟩
      have h38 : M11 228 38 = 0 ∨ M11 228 38 = 1 := by
        rcases hres with ⟨h1, h2⟩ | ⟨z, h1, h2, h3⟩
        · exact Or.inr h2
        · exact Or.inl h2
      refine rr_cV2 pf_296_46 po_296 pc_9_444 (ws_228 hW) po_191 (by decide) rfl hcM11 ?_
      refine rr_aload_n pf_296_49 rfl ?_
      refine rr_iconst pf_296_50 ?_
      refine vr_putZ hW q12 pf_296_51 po_296 pg_9_353 (Or.inl rfl) rfl (ws_228 hW) (by decide) (by omega) (by decide) (fun M14 eM14 q15 => ?_)
      have rq16 := fz_up rq13 eM14 (by decide)
      refine rr_aload_n pf_296_54 rfl ?_
      refine rr_aload_n pf_296_55 rfl ?_
      refine vr_getZ q15 pf_296_56 po_296 pg_9_427 rfl (ws_228 hW) (by decide) (fun x17 hx17 rx17 => ?_)
      rw [eM14, up_ne (by decide)] at hx17
      have h38b := h38
      refine vr_putZ hW q15 pf_296_59 po_296 pg_9_570 (Or.inl rfl) rfl (ws_228 hW) (by decide) (by omega) (by decide) (fun M18 eM18 q19 => ?_)
      have rq20 := fz_up rq16 eM18 (by decide)
      refine rr_aload_n pf_296_62 rfl ?_
      refine vr_getL q19 pf_296_63 po_296 pg_9_441 rfl (ws_228 hW) (by decide) (fun x21 hx21 rx21 => ?_)
      rw [eM18, up_ne (by decide), eM14, up_ne (by decide)] at hx21
      have hzb : -9223372036854775808 ≤ x21 ∧ x21 < 9223372036854775808 := rx21
      refine rr_l2i pf_296_66 rx21 ?_
      refine rr_iret pf_296_67 pt_296 ⟨_, M18, rfl, rfl, q19, (by
                  refine Or.inr ⟨by omega, ?_⟩
                  have e58 : M18 228 58 = M11 228 38 := by rw [eM18, up_s]; exact hx17
                  rcases hres with ⟨h1, h2⟩ | ⟨z, h1, h2, h3, h4⟩
                  · exact Or.inl ⟨h1, by omega⟩
                  · refine Or.inr ⟨z, h1, ?_, by omega⟩
                    rw [← h3]; exact hx21), (by rw [eM18, up_ne (by decide), eM14, up_s]), (rq20)⟩
    · refine rr_iconst pf_296_24 ?_
      refine rr_iret pf_296_25 pt_296 ⟨_, M0, rfl, rfl, q0, (Or.inr ⟨by omega, Or.inr ⟨-1, hy (by omega), rfl, by omega⟩⟩), (h20), ((fz_rf [20, 38, 39, 58] M0))⟩

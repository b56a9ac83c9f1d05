/-! the class on paper: the pane to look at -/
theorem qk_fillI {sh : List (Nat × Nat)} {A : List Nat} {M0 M : Nat → Nat → Int} (hW : px_W0 <+: sh) (q : px_qk sh A M0 M) {a n : Nat} {x : Int} (hs : sh[a]? = some (10, n)) (hx : rg x) (hA : a ∈ A) : px_qk sh A M0 (px_cl M a (fun j => if j < n then x else M a j)) := by
  refine ⟨fx_cl hW q.1 hs (by decide), rg_cl q.2.1 hs (fun j => ?_), ?_⟩
  · split
    · exact hx
    · exact rg_at q.2.1 hs (by rw [px_ty10]; decide)
  · intro b hb
    unfold px_cl
    funext j
    rw [if_neg (fun z => hb (by rw [z]; exact hA))]
    exact congrFun (q.2.2 b hb) j
theorem gv_congr {lw : List sp_C} {ρ : Nat → Int} {s t p : Nat} {h : Int} : ∀ w, (∀ j, j < w → s.testBit j = t.testBit j) → sp_gv lw ρ s p h w = sp_gv lw ρ t p h w := by
  intro w
  induction w with
  | zero => intro _; rfl
  | succ w ih => intro hb; simp only [sp_gv]; rw [ih (fun j hj => hb j (by omega)), hb w (by omega)]
theorem gv_lo {lw : List sp_C} {ρ : Nat → Int} {s p w : Nat} {h : Int} (hs : s < 2 ^ w) : sp_gv lw ρ s p h (w + 1) = sp_gv lw ρ s p h w := by
  rw [sp_gv, Nat.testBit_lt_two_pow hs, if_neg (fun z => by cases z.1), Int.add_zero]
theorem gv_hi {lw : List sp_C} {ρ : Nat → Int} {s p w : Nat} (h1 : 2 ^ w ≤ s) (h2 : s < 2 * 2 ^ w) : sp_gv lw ρ s p (-1) (w + 1) = sp_gv lw ρ (s - 2 ^ w) p (-1) (w + 1) + sp_stain lw ρ w p := by
  obtain ⟨t, rfl⟩ : ∃ t, s = 2 ^ w + t := ⟨s - 2 ^ w, by omega⟩
  have ht : t < 2 ^ w := by omega
  rw [Nat.add_sub_cancel_left, gv_lo ht, sp_gv, Nat.testBit_two_pow_add_eq, Nat.testBit_lt_two_pow ht, if_pos ⟨rfl, Or.inl rfl⟩, gv_congr w (fun j hj => Nat.testBit_two_pow_add_gt hj t)]
theorem al_same {lw : List sp_C} {ρ : Nat → Int} {n p a : Nat} : ∀ j, pcN lw ρ n (a + j) = pcN lw ρ n a → (∀ v, alN lw ρ n p (a + j) v = alN lw ρ n p a v) ∧ moN lw ρ n p (a + j) = moN lw ρ n p a := by
  intro j
  induction j with
  | zero => intro _; exact ⟨fun _ => rfl, rfl⟩
  | succ j ih =>
    intro h
    rw [← Nat.add_assoc, pcN] at h
    have hm := pcN_mono (lw := lw) (ρ := ρ) (n := n) a j
    have hf : ¬ sp_fit lw ρ n (a + j) = true := fun z => by rw [if_pos z] at h; omega
    rw [if_neg hf, Nat.add_zero] at h
    obtain ⟨h1, h2⟩ := ih h
    rw [← Nat.add_assoc]
    refine ⟨fun v => ?_, ?_⟩
    · rw [alN, if_neg (fun z => hf z.1)]; exact h1 v
    · rw [moN, if_neg hf]; exact h2
theorem al_eq {lw : List sp_C} {ρ : Nat → Int} {n p a b : Nat} (hab : a ≤ b) (h : pcN lw ρ n b = pcN lw ρ n a) : (∀ v, alN lw ρ n p b v = alN lw ρ n p a v) ∧ moN lw ρ n p b = moN lw ρ n p a := by
  obtain ⟨j, rfl⟩ : ∃ j, b = a + j := ⟨b - a, by omega⟩
  exact al_same j h
theorem mo_pos {lw : List sp_C} {ρ : Nat → Int} {n p : Nat} : ∀ m, 0 < pcN lw ρ n m → 0 < moN lw ρ n p m := by
  intro m
  induction m with
  | zero => intro h; simp [pcN] at h
  | succ m ih =>
    intro h
    have hg := gv_b lw ρ m p (-1) n
    have ha := alN_b lw ρ n p m (sp_gv lw ρ m p (-1) n).toNat
    simp only [moN, alN]
    by_cases hf : sp_fit lw ρ n m = true
    · rw [if_pos hf, if_pos ⟨hf, by omega⟩]; omega
    · rw [if_neg hf]
      rw [pcN, if_neg hf] at h
      exact ih h
theorem lkF_0 {lw : List sp_C} {ρ : Nat → Int} {n : Nat} (h : pcN lw ρ n (2 ^ n) = 0) : ∀ p, lkF lw ρ n p = (-1, 100000000) := by
  intro p
  induction p with
  | zero => rfl
  | succ p ih =>
    have := (al_eq (lw := lw) (ρ := ρ) (n := n) (p := p) (Nat.zero_le (2 ^ n)) h).2
    rw [lkF, this, ih]
    rfl
theorem lp_Paper_mostAlikeAt_27 {xs : Nat → Int} {L d : Nat} {sh : List (Nat × Nat)} (hd : 1 ≤ d) (hW : px_W0 <+: sh) {M0 : Nat → Nat → Int}  {ρ : Nat → Int} (hR : rc M0 3 = ρ) (hρ : sp_ok ρ) {lw : List sp_C} {n : Nat} (hn : ρ 0 = ((n : Nat) : Int)) (hn8 : n ≤ 8) {p : Nat} (hp6 : p < 16) (hct : M0 175 16 = ((pcN lw ρ n (2 ^ n) : Nat) : Int)) (hse : ∀ t, t < 2 ^ n → sp_fit lw ρ n t = true → M0 176 (pcN lw ρ n t) = ((t : Nat) : Int)) (hstp : ∀ w, w < n → M0 177 (16 * w + p) = sp_stain lw ρ w p) {w : Nat} (hw : w < n) {hf : Int} (hhf : hf = ((2 ^ w : Nat) : Int)) {Q : Option Value → px_H → Prop} (kx : ∀ (s : Nat) (M : Nat → Nat → Int), px_qk sh [180, 181] M0 M → (∀ t, t < 2 * 2 ^ w → M 180 t = sp_gv lw ρ t p (-1) (w + 1)) → px_R xs L d 134 (64, [.ref 175, .int (iI (((p : Nat) : Int))), .int (iI (((w : Nat) : Int))), .int (iI (hf)), .int (iI (((s : Nat) : Int)))], [], (sh, M)) Q)  : ∀ (mz : Nat) (s : Nat) (M : Nat → Nat → Int), 2 * 2 ^ w - s = mz → px_qk sh [180, 181] M0 M → (2 ^ w ≤ s ∧ s ≤ 2 * 2 ^ w) → (∀ t, t < s → M 180 t = sp_gv lw ρ t p (-1) (w + 1)) → px_R xs L d 134 (27, [.ref 175, .int (iI (((p : Nat) : Int))), .int (iI (((w : Nat) : Int))), .int (iI (hf)), .int (iI (((s : Nat) : Int)))], [], (sh, M)) Q := by
  intro mz
  induction mz using Nat.strongRecOn with
  | _ mz ih =>
    intro s M hm hq hs ham
    have hpw : 2 ^ w ≤ 2 ^ 7 := Nat.pow_le_pow_right (by decide) (by omega)
    have hpw1 : 1 ≤ 2 ^ w := Nat.one_le_two_pow
    refine rr_iload pf_134_27 rfl ?_
    refine rr_iconst pf_134_29 ?_
    refine rr_iload_n pf_134_30 rfl ?_
    refine rr_imul pf_134_31 ?_
    refine rr_icmp_ge 64 pf_134_32 (by decide) (by unfold rg; omega) (by unfold rg; omega) (fun c1 => ?_) (fun c1 => ?_)
    · exact kx s M hq (by intro t ht; exact ham t (by omega))
    · refine rr_aload_n pf_134_35 rfl ?_
      refine rr_getR pf_134_36 po_134 pg_2_31 rfl (ws_175 hW) (by decide) (wr_175_8 hq.1) ?_
      refine rr_iload pf_134_39 rfl ?_
      refine rr_aload_n pf_134_41 rfl ?_
      refine rr_getR pf_134_42 po_134 pg_2_31 rfl (ws_175 hW) (by decide) (wr_175_8 hq.1) ?_
      refine rr_iload pf_134_45 rfl ?_
      refine rr_iload_n pf_134_47 rfl ?_
      refine rr_isub pf_134_48 ?_
      refine vr_iald (j := (s - 2 ^ w)) hq pf_134_49 (ws_180 hW) (by omega) (by omega) (by decide) (fun x2 hx2 rx2 => ?_)
      have hgb := gv_b lw ρ (s - 2 ^ w) p (-1) (w + 1)
      have hga := ham (s - 2 ^ w) (by omega)
      refine rr_aload_n pf_134_50 rfl ?_
      refine rr_iload_n pf_134_51 rfl ?_
      refine rr_iload_n pf_134_52 rfl ?_
      obtain ⟨r5, M3, ⟨kq4, pv_M3⟩, hcM3⟩ := ct_Paper_stain (xs := xs) (L := L) (d := d) (w := w) (p := p) (by omega) hW hq.1 hq.2.1 (by omega) (by omega)
      obtain rfl := qk_nil kq4
      refine rr_cV2 pf_134_53 po_134 pc_2_127 (ws_175 hW) po_131 (by decide) rfl hcM3 ?_
      rw [hq.2.2 177 (by decide), hstp w (by omega)] at pv_M3
      have hsb := sp_stain_b lw ρ w p
      refine rr_iadd pf_134_56 ?_
      refine vr_iast (j := s) hW hq pf_134_57 (ws_180 hW) (by omega) (by omega) (by decide) (by unfold rg; omega) (by decide) (fun M6 eM6 q7 => ?_)
      refine rr_iinc pf_134_58 rfl (fun y => [.ref 175, .int (iI (((p : Nat) : Int))), .int (iI (((w : Nat) : Int))), .int (iI (hf)), .int (iI (y))]) (fun _ => rfl) (fun y8 hy8 => ?_)
      refine rr_goto 27 pf_134_61 (by decide) ?_
      obtain ⟨nz9, hnz9, rfl⟩ : ∃ zz : Nat, zz = 1 + s ∧ y8 = ((zz : Nat) : Int) := ⟨1 + s, rfl, by omega⟩
      exact ih _ (by omega) nz9 M6 rfl q7 (by omega) (by
                  intro t ht; rw [eM6, ask_up]; by_cases hz : t = s
                  · rw [if_pos hz, hz, gv_hi hs.1 (by omega), ← ham (s - 2 ^ w) (by omega), pv_M3]
                    rw [← hx2]
                  · rw [if_neg hz]; exact ham t (by omega))
theorem lp_Paper_mostAlikeAt_9 {xs : Nat → Int} {L d : Nat} {sh : List (Nat × Nat)} (hd : 1 ≤ d) (hW : px_W0 <+: sh) {M0 : Nat → Nat → Int}  {ρ : Nat → Int} (hR : rc M0 3 = ρ) (hρ : sp_ok ρ) {lw : List sp_C} {n : Nat} (hn : ρ 0 = ((n : Nat) : Int)) (hn8 : n ≤ 8) {p : Nat} (hp6 : p < 16) (hct : M0 175 16 = ((pcN lw ρ n (2 ^ n) : Nat) : Int)) (hse : ∀ t, t < 2 ^ n → sp_fit lw ρ n t = true → M0 176 (pcN lw ρ n t) = ((t : Nat) : Int)) (hstp : ∀ w, w < n → M0 177 (16 * w + p) = sp_stain lw ρ w p)  {Q : Option Value → px_H → Prop} (kx : ∀ (w : Nat) (v3 : Value) (v4 : Value) (M : Nat → Nat → Int), px_qk sh [180, 181] M0 M → (∀ t, t < 2 ^ n → M 180 t = sp_gv lw ρ t p (-1) n) → px_R xs L d 134 (70, [.ref 175, .int (iI (((p : Nat) : Int))), .int (iI (((w : Nat) : Int))), v3, v4], [], (sh, M)) Q)  : ∀ (mz : Nat) (w : Nat) (v3 : Value) (v4 : Value) (M : Nat → Nat → Int), n - w = mz → px_qk sh [180, 181] M0 M → (w ≤ n) → (∀ t, t < 2 ^ w → M 180 t = sp_gv lw ρ t p (-1) w) → px_R xs L d 134 (9, [.ref 175, .int (iI (((p : Nat) : Int))), .int (iI (((w : Nat) : Int))), v3, v4], [], (sh, M)) Q := by
  intro mz
  induction mz using Nat.strongRecOn with
  | _ mz ih =>
    intro w v3 v4 M hm hq hw ham
    refine rr_iload_n pf_134_9 rfl ?_
    refine rr_aload_n pf_134_10 rfl ?_
    refine rr_getR pf_134_11 po_134 pg_2_65 rfl (ws_175 hW) (by decide) (wr_175_3 hq.1) ?_
    refine vr_getI hq pf_134_14 po_134 pg_2_77 rfl (ws_3 hW) (by decide) (fun x1 hx1 rx1 => ?_)
    rw [hq.2.2 3 (by decide)] at hx1
    change x1 = rc M0 3 0 at hx1
    rw [hR] at hx1
    refine rr_icmp_ge 70 pf_134_17 (by decide) (by unfold rg; omega) rx1 (fun c2 => ?_) (fun c2 => ?_)
    · exact kx w _ _ M hq (by rw [show n = w by omega]; exact ham)
    · have hpw : 2 ^ w ≤ 2 ^ 7 := Nat.pow_le_pow_right (by decide) (by omega)
      have hpw1 : 1 ≤ 2 ^ w := Nat.one_le_two_pow
      refine rr_iconst pf_134_20 ?_
      refine rr_iload_n pf_134_21 rfl ?_
      refine rr_ishl (((2 ^ w : Nat) : Int)) pf_134_22 (iI_shl1 w (by omega)) ?_
      refine rr_istore_n pf_134_23 (fun y => [.ref 175, .int (iI (((p : Nat) : Int))), .int (iI (((w : Nat) : Int))), .int (iI (y)), v4]) (Nat.le_of_ble_eq_true rfl) (fun _ => rfl) (fun y3 hy3 => ?_)
      refine rr_iload_n pf_134_24 rfl ?_
      refine rr_istore pf_134_25 (fun y => [.ref 175, .int (iI (((p : Nat) : Int))), .int (iI (((w : Nat) : Int))), .int (iI (y3)), .int (iI (y))]) (Nat.le_of_ble_eq_true rfl) (fun _ => rfl) (fun y4 hy4 => ?_)
      obtain ⟨nz5, hnz5, rfl⟩ : ∃ zz : Nat, zz = y4.toNat ∧ y4 = ((zz : Nat) : Int) := ⟨y4.toNat, rfl, by omega⟩
      refine lp_Paper_mostAlikeAt_27 (xs := xs) (L := L) (d := d) (by omega) hW hR hρ hn hn8 hp6 hct hse hstp (by omega) (by omega) (fun s_6  M7 q8 xam_M7 => ?_) _ nz5 M rfl hq (by omega) (by intro t ht; rw [gv_lo (by omega)]; exact ham t (by omega))
      refine rr_iinc pf_134_64 rfl (fun y => [.ref 175, .int (iI (((p : Nat) : Int))), .int (iI (y)), .int (iI (y3)), .int (iI (((s_6 : Nat) : Int)))]) (fun _ => rfl) (fun y9 hy9 => ?_)
      refine rr_goto 9 pf_134_67 (by decide) ?_
      obtain ⟨nz10, hnz10, rfl⟩ : ∃ zz : Nat, zz = 1 + w ∧ y9 = ((zz : Nat) : Int) := ⟨1 + w, rfl, by omega⟩
      exact ih _ (by omega) nz10 _ _ M7 rfl q8 (by omega) (by intro t ht; rw [show nz10 = w + 1 by omega] at ht ⊢; rw [Nat.pow_succ] at ht; exact xam_M7 t (by omega))
theorem lp_Paper_mostAlikeAt_82 {xs : Nat → Int} {L d : Nat} {sh : List (Nat × Nat)} (hd : 1 ≤ d) (hW : px_W0 <+: sh) {M0 : Nat → Nat → Int}  {ρ : Nat → Int} (hR : rc M0 3 = ρ) (hρ : sp_ok ρ) {lw : List sp_C} {n : Nat} (hn : ρ 0 = ((n : Nat) : Int)) (hn8 : n ≤ 8) {p : Nat} (hp6 : p < 16) (hct : M0 175 16 = ((pcN lw ρ n (2 ^ n) : Nat) : Int)) (hse : ∀ t, t < 2 ^ n → sp_fit lw ρ n t = true → M0 176 (pcN lw ρ n t) = ((t : Nat) : Int)) (hstp : ∀ w, w < n → M0 177 (16 * w + p) = sp_stain lw ρ w p)  {Q : Option Value → px_H → Prop} (kx : ∀ (mo : Int) (i : Nat) (v4 : Value) (M : Nat → Nat → Int), px_qk sh [180, 181] M0 M → (mo = moN lw ρ n p (2 ^ n)) → px_R xs L d 134 (132, [.ref 175, .int (iI (((p : Nat) : Int))), .int (iI (mo)), .int (iI (((i : Nat) : Int))), v4], [], (sh, M)) Q)  : ∀ (mz : Nat) (mo : Int) (i : Nat) (v4 : Value) (M : Nat → Nat → Int), pcN lw ρ n (2 ^ n) - i = mz → px_qk sh [180, 181] M0 M → (i ≤ pcN lw ρ n (2 ^ n)) → (∀ t, t < 2 ^ n → M 180 t = sp_gv lw ρ t p (-1) n) → (∀ m2, m2 ≤ 2 ^ n → pcN lw ρ n m2 = i → (∀ v, v < 161 → M 181 v = alN lw ρ n p m2 v) ∧ mo = moN lw ρ n p m2) → px_R xs L d 134 (82, [.ref 175, .int (iI (((p : Nat) : Int))), .int (iI (mo)), .int (iI (((i : Nat) : Int))), v4], [], (sh, M)) Q := by
  intro mz
  induction mz using Nat.strongRecOn with
  | _ mz ih =>
    intro mo i v4 M hm hq hi ham hal
    have h2n := p2_b hn8
    have hcb := pcN_le lw ρ n (2 ^ n)
    refine rr_iload_n pf_134_82 rfl ?_
    refine rr_aload_n pf_134_83 rfl ?_
    refine vr_getI hq pf_134_84 po_134 pg_2_56 rfl (ws_175 hW) (by decide) (fun x1 hx1 rx1 => ?_)
    rw [hq.2.2 175 (by decide)] at hx1
    rw [hct] at hx1
    refine rr_icmp_ge 132 pf_134_87 (by decide) (by unfold rg; omega) rx1 (fun c2 => ?_) (fun c2 => ?_)
    · exact kx mo i _ M hq ((hal (2 ^ n) (Nat.le_refl _) (by omega)).2)
    · obtain ⟨s, hs1, hfs, hs3, _⟩ := (pc_at (lw := lw) (ρ := ρ) (n := n) ((i : Nat) : Int) (2 ^ n)).1 (by omega)
      have hs5 := hse s hs1 hfs
      refine rr_aload_n pf_134_90 rfl ?_
      refine rr_getR pf_134_91 po_134 pg_2_31 rfl (ws_175 hW) (by decide) (wr_175_8 hq.1) ?_
      refine rr_aload_n pf_134_94 rfl ?_
      refine rr_getR pf_134_95 po_134 pg_2_11 rfl (ws_175 hW) (by decide) (wr_175_0 hq.1) ?_
      refine rr_iload_n pf_134_98 rfl ?_
      refine vr_iald (j := i) hq pf_134_99 (ws_176 hW) (by omega) (by omega) (by decide) (fun x3 hx3 rx3 => ?_)
      rw [hq.2.2 176 (by decide)] at hx3
      rw [show pcN lw ρ n s = i by omega, ← hx3] at hs5
      obtain ⟨g, hg⟩ : ∃ z, z = sp_gv lw ρ s p (-1) n := ⟨_, rfl⟩
      have hgb := gv_b lw ρ s p (-1) n
      rw [← hg] at hgb
      have hsl := hal s (by omega) (by omega)
      have hab := alN_b lw ρ n p s g.toNat
      have hmb := moN_b lw ρ n p s
      have hss := hsl.1 g.toNat (by omega)
      have hmo := hsl.2
      refine vr_iald (j := s) hq pf_134_100 (ws_180 hW) (by omega) (by omega) (by decide) (fun x4 hx4 rx4 => ?_)
      rw [ham s hs1, ← hg] at hx4
      refine rr_istore pf_134_101 (fun y => [.ref 175, .int (iI (((p : Nat) : Int))), .int (iI (mo)), .int (iI (((i : Nat) : Int))), .int (iI (y))]) (Nat.le_of_ble_eq_true rfl) (fun _ => rfl) (fun y5 hy5 => ?_)
      have ry5 : rg y5 := hy5 ▸ rx4
      refine rr_aload_n pf_134_103 rfl ?_
      refine rr_getR pf_134_104 po_134 pg_2_34 rfl (ws_175 hW) (by decide) (wr_175_9 hq.1) ?_
      refine rr_iload pf_134_107 rfl ?_
      refine rr_dup2 pf_134_109 rfl rfl ?_
      refine vr_iald (j := g.toNat) hq pf_134_110 (ws_181 hW) (by omega) (by omega) (by decide) (fun x6 hx6 rx6 => ?_)
      refine rr_iconst pf_134_111 ?_
      refine rr_iadd pf_134_112 ?_
      refine vr_iast (j := g.toNat) hW hq pf_134_113 (ws_181 hW) (by omega) (by omega) (by decide) (by unfold rg; omega) (by decide) (fun M7 eM7 q8 => ?_)
      refine rr_iload_n pf_134_114 rfl ?_
      refine rr_aload_n pf_134_115 rfl ?_
      refine rr_getR pf_134_116 po_134 pg_2_34 rfl (ws_175 hW) (by decide) (wr_175_9 q8.1) ?_
      refine rr_iload pf_134_119 rfl ?_
      refine vr_iald (j := g.toNat) q8 pf_134_121 (ws_181 hW) (by omega) (by omega) (by decide) (fun x9 hx9 rx9 => ?_)
      rw [eM7, up_s] at hx9
      refine rr_max pf_134_122 po_134 pc_2_139 rfl (by unfold rg; omega) rx9 ?_
      refine rr_istore_n pf_134_125 (fun y => [.ref 175, .int (iI (((p : Nat) : Int))), .int (iI (y)), .int (iI (((i : Nat) : Int))), .int (iI (y5))]) (Nat.le_of_ble_eq_true rfl) (fun _ => rfl) (fun y10 hy10 => ?_)
      refine rr_iinc pf_134_126 rfl (fun y => [.ref 175, .int (iI (((p : Nat) : Int))), .int (iI (y10)), .int (iI (y)), .int (iI (y5))]) (fun _ => rfl) (fun y11 hy11 => ?_)
      refine rr_goto 82 pf_134_129 (by decide) ?_
      obtain ⟨nz12, hnz12, rfl⟩ : ∃ zz : Nat, zz = 1 + i ∧ y11 = ((zz : Nat) : Int) := ⟨1 + i, rfl, by omega⟩
      exact ih _ (by omega) y10 nz12 _ M7 rfl q8 (by omega) (by intro t ht; rw [eM7, ask_ne (by decide)]; exact ham t ht) (by
                  intro m2 hm2 hpm
                  have hsm : s + 1 ≤ m2 := by
                    have := pcN_mono (lw := lw) (ρ := ρ) (n := n) m2 (s - m2)
                    rcases (show m2 ≤ s ∨ s + 1 ≤ m2 by omega) with z | z
                    · rw [show m2 + (s - m2) = s by omega] at this; omega
                    · exact z
                  obtain ⟨e1, e2⟩ := al_eq (lw := lw) (ρ := ρ) (n := n) (p := p) hsm (by rw [pcN, if_pos hfs]; omega)
                  refine ⟨fun v hv => ?_, ?_⟩
                  · rw [e1 v, alN, eM7, ask_up]
                    by_cases hc : v = g.toNat
                    · rw [if_pos hc, if_pos ⟨hfs, by rw [← hg]; omega⟩, hc]; omega
                    · rw [if_neg hc, if_neg (fun z => hc (by have := z.2; omega))]; exact hsl.1 v hv
                  · rw [e2, moN, if_pos hfs, ← hg, alN, if_pos ⟨hfs, by rw [← hg]; omega⟩, ← hsl.2]; omega)
theorem ct_Paper_mostAlikeAt {xs : Nat → Int} {L d : Nat} {sh : List (Nat × Nat)} {M0 : Nat → Nat → Int} (hd : 2 ≤ d) (hW : px_W0 <+: sh) (hF : px_Fx M0) (hG : px_RG sh M0)  {ρ : Nat → Int} (hR : rc M0 3 = ρ) (hρ : sp_ok ρ) {lw : List sp_C} {n : Nat} (hn : ρ 0 = ((n : Nat) : Int)) (hn8 : n ≤ 8) {p : Nat} (hp6 : p < 16) (hct : M0 175 16 = ((pcN lw ρ n (2 ^ n) : Nat) : Int)) (hse : ∀ t, t < 2 ^ n → sp_fit lw ρ n t = true → M0 176 (pcN lw ρ n t) = ((t : Nat) : Int)) (hstp : ∀ w, w < n → M0 177 (16 * w + p) = sp_stain lw ρ w p) : ∃ v M, (px_qk sh [180, 181] M0 M ∧ (v = moN lw ρ n p (2 ^ n))) ∧ px_Cl xs L d 134 [.ref 175, .int (iI (((p : Nat) : Int)))] (sh, M0) (some (.int (iI v))) (sh, M) := by
  obtain ⟨d, rfl⟩ : ∃ e, d = e + 1 := ⟨d - 1, by omega⟩
  have q0 : px_qk sh [180, 181] M0 M0 := ⟨hF, hG, eo_rf⟩
  have h2n := p2_b hn8
  refine vc_i (Nat.le_of_ble_eq_true rfl) ?_
  show px_R xs L d 134 (0, [.ref 175, .int (iI (((p : Nat) : Int))), px_jk, px_jk, px_jk], [], (sh, M0)) (fun r h' => ∃ v M', r = some (.int (iI v)) ∧ h' = (sh, M') ∧ px_qk sh [180, 181] M0 M' ∧ v = moN lw ρ n p (2 ^ n))
  refine rr_aload_n pf_134_0 rfl ?_
  refine rr_getR pf_134_1 po_134 pg_2_31 rfl (ws_175 hW) (by decide) (wr_175_8 q0.1) ?_
  refine rr_iconst pf_134_4 ?_
  refine rr_iconst pf_134_5 ?_
  refine vr_iast (j := 0) hW q0 pf_134_6 (ws_180 hW) (by omega) (by omega) (by decide) (by unfold rg; omega) (by decide) (fun M1 eM1 q2 => ?_)
  refine rr_iconst pf_134_7 ?_
  refine rr_istore_n pf_134_8 (fun y => [.ref 175, .int (iI (((p : Nat) : Int))), .int (iI (y)), px_jk, px_jk]) (Nat.le_of_ble_eq_true rfl) (fun _ => rfl) (fun y3 hy3 => ?_)
  obtain ⟨nz4, hnz4, rfl⟩ : ∃ zz : Nat, zz = 0 ∧ y3 = ((zz : Nat) : Int) := ⟨0, rfl, by omega⟩
  refine lp_Paper_mostAlikeAt_9 (xs := xs) (L := L) (d := d) (by omega) hW hR hρ hn hn8 hp6 hct hse hstp (fun w_5 v8 v9 M6 q7 xam_M6 => ?_) _ nz4 _ _ M1 rfl q2 (by omega) (by intro t ht; rw [show nz4 = 0 by omega] at ht ⊢; rw [show t = 0 by omega, eM1, up_s]; rfl)
  refine rr_aload_n pf_134_70 rfl ?_
  refine rr_getR pf_134_71 po_134 pg_2_34 rfl (ws_175 hW) (by decide) (wr_175_9 q7.1) ?_
  refine rr_iconst pf_134_74 ?_
  have hcF12 := ct_Arrays_fillI (xs := xs) (L := L) (d := d) (a := 181) (n := 161) (M := M6) (v := 0) (by omega) (ws_181 hW) (by decide) (by unfold rg; omega)
  have q11 := qk_fillI hW q7 (x := 0) (ws_181 hW) (by unfold rg; omega) (by decide)
  obtain ⟨M10, eM10⟩ : ∃ z, z = px_cl M6 181 (fun j => if j < 161 then 0 else M6 181 j) := ⟨_, rfl⟩
  rw [← eM10] at hcF12 q11
  have fM10 : ∀ j, j < 161 → M10 181 j = 0 := fun j hj => by rw [eM10]; unfold px_cl; rw [if_pos rfl]; exact if_pos hj
  have gM10 : ∀ b, b ≠ 181 → M10 b = M6 b := fun b hb => by rw [eM10]; unfold px_cl; funext j; rw [if_neg hb]
  refine rr_cS2 pf_134_75 po_134 pc_2_133 (by decide) rfl hcF12 ?_
  refine rr_iconst pf_134_78 ?_
  refine rr_istore_n pf_134_79 (fun y => [.ref 175, .int (iI (((p : Nat) : Int))), .int (iI (y)), v8, v9]) (Nat.le_of_ble_eq_true rfl) (fun _ => rfl) (fun y13 hy13 => ?_)
  refine rr_iconst pf_134_80 ?_
  refine rr_istore_n pf_134_81 (fun y => [.ref 175, .int (iI (((p : Nat) : Int))), .int (iI (y13)), .int (iI (y)), v9]) (Nat.le_of_ble_eq_true rfl) (fun _ => rfl) (fun y14 hy14 => ?_)
  obtain ⟨nz15, hnz15, rfl⟩ : ∃ zz : Nat, zz = 0 ∧ y14 = ((zz : Nat) : Int) := ⟨0, rfl, by omega⟩
  refine lp_Paper_mostAlikeAt_82 (xs := xs) (L := L) (d := d) (by omega) hW hR hρ hn hn8 hp6 hct hse hstp (fun mo_16 i_17 v20 M18 q19 xmo_M18 => ?_) _ y13 nz15 _ M10 rfl q11 (by omega) (by intro t ht; rw [gM10 180 (by decide)]; exact xam_M6 t ht) (by
          intro m2 hm2 hpm; obtain ⟨e1, e2⟩ := al_eq (lw := lw) (ρ := ρ) (n := n) (p := p) (Nat.zero_le m2) (by rw [hpm, show nz15 = 0 by omega]; rfl)
          exact ⟨fun v hv => by rw [e1 v, fM10 v hv]; rfl, by rw [e2]; exact hy13⟩)
  refine rr_iload_n pf_134_132 rfl ?_
  refine rr_iret pf_134_133 pt_134 ⟨_, M18, rfl, rfl, q19, (xmo_M18)⟩
theorem lp_Paper_findPaneToLookAt_4 {xs : Nat → Int} {L d : Nat} {sh : List (Nat × Nat)} (hd : 6 ≤ d) (hW : px_W0 <+: sh) {M0 : Nat → Nat → Int}  {ρ : Nat → Int} (hR : rc M0 3 = ρ) (hρ : sp_ok ρ) {lw : List sp_C} (hlw : px_lw sh M0 3 lw) {n : Nat} (hn : ρ 0 = ((n : Nat) : Int)) (hn8 : n ≤ 8) (hct : M0 175 16 = ((pcN lw ρ n (2 ^ n) : Nat) : Int)) (hse : ∀ t, t < 2 ^ n → sp_fit lw ρ n t = true → M0 176 (pcN lw ρ n t) = ((t : Nat) : Int)) (hpos : 0 < pcN lw ρ n (2 ^ n))  {Q : Option Value → px_H → Prop} (kx : ∀ (be : Int) (p : Nat) (v3 : Value) (M : Nat → Nat → Int), px_qk sh [2, 13, 175, 177, 180, 181] M0 M → (fk 175 [1] M0 M) → (be = (lkF lw ρ n 16).1 ∧ M 175 1 = (lkF lw ρ n 16).2) → (-1 ≤ be ∧ be < 16) → px_R xs L d 133 (47, [.ref 175, .int (iI (be)), .int (iI (((p : Nat) : Int))), v3], [], (sh, M)) Q)  : ∀ (mz : Nat) (be : Int) (p : Nat) (v3 : Value) (M : Nat → Nat → Int), 16 - p = mz → px_qk sh [2, 13, 175, 177, 180, 181] M0 M → (fk 175 [1] M0 M) → (p ≤ 16) → ((p = 0 ∧ be = -1) ∨ (0 < p ∧ 0 ≤ be ∧ be < 16 ∧ be = (lkF lw ρ n p).1 ∧ M 175 1 = (lkF lw ρ n p).2)) → px_R xs L d 133 (4, [.ref 175, .int (iI (be)), .int (iI (((p : Nat) : Int))), v3], [], (sh, M)) Q := by
  intro mz
  induction mz using Nat.strongRecOn with
  | _ mz ih =>
    intro be p v3 M hm hq hrq hp hF
    have h2n := p2_b hn8
    have h0 := hρ.1
    refine rr_iload_n pf_133_4 rfl ?_
    refine rr_bipush pf_133_5 (by decide) ?_
    refine rr_icmp_ge 47 pf_133_7 (by decide) (by unfold rg; omega) (by unfold rg; omega) (fun c1 => ?_) (fun c1 => ?_)
    · exact kx be p _ M hq (hrq) (by
                  have e : p = 16 := by omega
                  rw [e] at hF; exact ⟨by omega, by omega⟩) (by omega)
    · refine rr_aload_n pf_133_10 rfl ?_
      refine rr_iload_n pf_133_11 rfl ?_
      obtain ⟨M2, ⟨kq3, pz_M2⟩, hcM2⟩ := ct_Paper_fillStains (xs := xs) (L := L) (d := d) (p := p) (lw := lw) (by omega) hW hq.1 hq.2.1 (by rw [((rc_eo hq.2.2 (by decide)).trans hR)]; exact hρ) (lw_eo hlw hq.2.2 (by decide) (by decide) (by decide)) (by omega)
      have q3 := qk_trm hq kq3 (by decide)
      have rq5 := fk_q hrq kq3 (by decide)
      refine rr_cV1 pf_133_12 po_133 pc_2_84 (ws_175 hW) po_129 (by decide) rfl hcM2 ?_
      refine rr_aload_n pf_133_15 rfl ?_
      refine rr_iload_n pf_133_16 rfl ?_
      obtain ⟨r8, M6, ⟨kq7, pv_M6⟩, hcM6⟩ := ct_Paper_mostAlikeAt (xs := xs) (L := L) (d := d) (p := p) (lw := lw) (n := n) (by omega) hW q3.1 q3.2.1 ((rc_eo q3.2.2 (by decide)).trans hR) hρ hn hn8 (by omega) (by rw [rq5 16 (by decide)]; exact hct) (by rw [q3.2.2 176 (by decide)]; exact hse) (fun w2 hw2 => by rw [pz_M2 (16 * w2 + p), ((rc_eo hq.2.2 (by decide)).trans hR), if_pos ⟨by omega, by omega⟩, show (16 * w2 + p) / 16 = w2 by omega])
      have q7 := qk_trm q3 kq7 (by decide)
      have rq9 := fk_q rq5 kq7 (by decide)
      refine rr_cV1 pf_133_17 po_133 pc_2_130 (ws_175 hW) po_134 (by decide) rfl hcM6 ?_
      have hmp := mo_pos (lw := lw) (ρ := ρ) (n := n) (p := p) (2 ^ n) hpos
      have hmb := moN_b lw ρ n p (2 ^ n)
      refine rr_istore_n pf_133_20 (fun y => [.ref 175, .int (iI (be)), .int (iI (((p : Nat) : Int))), .int (iI (y))]) (Nat.le_of_ble_eq_true rfl) (fun _ => rfl) (fun y10 hy10 => ?_)
      refine rr_iload_n pf_133_21 rfl ?_
      refine rr_iconst pf_133_22 ?_
      refine rr_icmp_eq 34 pf_133_23 (by decide) (by unfold rg; omega) (by unfold rg; omega) (fun c11 => ?_) (fun c11 => ?_)
      · refine rr_iload_n pf_133_34 rfl ?_
        refine rr_istore_n pf_133_35 (fun y => [.ref 175, .int (iI (y)), .int (iI (((p : Nat) : Int))), .int (iI (y10))]) (Nat.le_of_ble_eq_true rfl) (fun _ => rfl) (fun y12 hy12 => ?_)
        refine rr_aload_n pf_133_36 rfl ?_
        refine rr_iload_n pf_133_37 rfl ?_
        refine vr_putI hW q7 pf_133_38 po_133 pg_2_15 (Or.inl rfl) rfl (ws_175 hW) (by decide) (by unfold rg; omega) (by decide) (fun M13 eM13 q14 => ?_)
        have rq15 := fk_up rq9 eM13 (by decide)
        refine rr_iinc pf_133_41 rfl (fun y => [.ref 175, .int (iI (y12)), .int (iI (y)), .int (iI (y10))]) (fun _ => rfl) (fun y16 hy16 => ?_)
        refine rr_goto 4 pf_133_44 (by decide) ?_
        obtain ⟨nz17, hnz17, rfl⟩ : ∃ zz : Nat, zz = 1 + p ∧ y16 = ((zz : Nat) : Int) := ⟨1 + p, rfl, by omega⟩
        exact ih _ (by omega) y12 nz17 _ M13 rfl q14 (rq15) (by omega) (by
                      right; rw [show nz17 = p + 1 by omega, lkF]; rcases hF with ⟨z1, z2⟩ | ⟨z1, z2, z3, z4, z5⟩
                      · subst z1; rw [if_pos ⟨by omega, by show _ < (100000000 : Int); omega⟩]; dsimp only; exact ⟨by omega, by omega, by omega, by omega, by rw [eM13, up_s]; omega⟩
                      · exfalso; omega)
      · refine rr_iload_n pf_133_26 rfl ?_
        refine rr_aload_n pf_133_27 rfl ?_
        refine vr_getI q7 pf_133_28 po_133 pg_2_15 rfl (ws_175 hW) (by decide) (fun x18 hx18 rx18 => ?_)
        rw [kq7.2.2 175 (by decide), kq3.2.2 175 (by decide)] at hx18
        refine rr_icmp_ge 41 pf_133_31 (by decide) (by unfold rg; omega) rx18 (fun c19 => ?_) (fun c19 => ?_)
        · refine rr_iinc pf_133_41 rfl (fun y => [.ref 175, .int (iI (be)), .int (iI (y)), .int (iI (y10))]) (fun _ => rfl) (fun y20 hy20 => ?_)
          refine rr_goto 4 pf_133_44 (by decide) ?_
          obtain ⟨nz21, hnz21, rfl⟩ : ∃ zz : Nat, zz = 1 + p ∧ y20 = ((zz : Nat) : Int) := ⟨1 + p, rfl, by omega⟩
          exact ih _ (by omega) be nz21 _ M6 rfl q7 (rq9) (by omega) (by
                          right; rw [show nz21 = p + 1 by omega, lkF]; rcases hF with ⟨z1, z2⟩ | ⟨z1, z2, z3, z4, z5⟩
                          · exfalso; omega
                          · rw [if_neg (by omega)]; exact ⟨by omega, by omega, by omega, z4, by rw [kq7.2.2 175 (by decide), kq3.2.2 175 (by decide)]; exact z5⟩)
        · refine rr_iload_n pf_133_34 rfl ?_
          refine rr_istore_n pf_133_35 (fun y => [.ref 175, .int (iI (y)), .int (iI (((p : Nat) : Int))), .int (iI (y10))]) (Nat.le_of_ble_eq_true rfl) (fun _ => rfl) (fun y22 hy22 => ?_)
          refine rr_aload_n pf_133_36 rfl ?_
          refine rr_iload_n pf_133_37 rfl ?_
          refine vr_putI hW q7 pf_133_38 po_133 pg_2_15 (Or.inl rfl) rfl (ws_175 hW) (by decide) (by unfold rg; omega) (by decide) (fun M23 eM23 q24 => ?_)
          have rq25 := fk_up rq9 eM23 (by decide)
          refine rr_iinc pf_133_41 rfl (fun y => [.ref 175, .int (iI (y22)), .int (iI (y)), .int (iI (y10))]) (fun _ => rfl) (fun y26 hy26 => ?_)
          refine rr_goto 4 pf_133_44 (by decide) ?_
          obtain ⟨nz27, hnz27, rfl⟩ : ∃ zz : Nat, zz = 1 + p ∧ y26 = ((zz : Nat) : Int) := ⟨1 + p, rfl, by omega⟩
          exact ih _ (by omega) y22 nz27 _ M23 rfl q24 (rq25) (by omega) (by
                          right; rw [show nz27 = p + 1 by omega, lkF]; rcases hF with ⟨z1, z2⟩ | ⟨z1, z2, z3, z4, z5⟩
                          · exfalso; omega
                          · rw [if_pos ⟨by omega, by omega⟩]; dsimp only; exact ⟨by omega, by omega, by omega, by omega, by rw [eM23, up_s]; omega⟩)
theorem ct_Paper_findPaneToLookAt {xs : Nat → Int} {L d : Nat} {sh : List (Nat × Nat)} {M0 : Nat → Nat → Int} (hd : 7 ≤ d) (hW : px_W0 <+: sh) (hF : px_Fx M0) (hG : px_RG sh M0)  {ρ : Nat → Int} (hR : rc M0 3 = ρ) (hρ : sp_ok ρ) {lw : List sp_C} (hlw : px_lw sh M0 3 lw) {n : Nat} (hn : ρ 0 = ((n : Nat) : Int)) (hn8 : n ≤ 8) (hct : M0 175 16 = ((pcN lw ρ n (2 ^ n) : Nat) : Int)) (hse : ∀ t, t < 2 ^ n → sp_fit lw ρ n t = true → M0 176 (pcN lw ρ n t) = ((t : Nat) : Int)) (hpos : 0 < pcN lw ρ n (2 ^ n)) : ∃ v M, (px_qk sh [2, 13, 175, 177, 180, 181] M0 M ∧ (v = (lkF lw ρ n 16).1) ∧ (M 175 1 = (lkF lw ρ n 16).2) ∧ (fk 175 [1] M0 M)) ∧ px_Cl xs L d 133 [.ref 175] (sh, M0) (some (.int (iI v))) (sh, M) := by
  obtain ⟨d, rfl⟩ : ∃ e, d = e + 1 := ⟨d - 1, by omega⟩
  have q0 : px_qk sh [2, 13, 175, 177, 180, 181] M0 M0 := ⟨hF, hG, eo_rf⟩
  refine vc_i (Nat.le_of_ble_eq_true rfl) ?_
  show px_R xs L d 133 (0, [.ref 175, px_jk, px_jk, px_jk], [], (sh, M0)) (fun r h' => ∃ v M', r = some (.int (iI v)) ∧ h' = (sh, M') ∧ px_qk sh [2, 13, 175, 177, 180, 181] M0 M' ∧ v = (lkF lw ρ n 16).1 ∧ M' 175 1 = (lkF lw ρ n 16).2 ∧ fk 175 [1] M0 M')
  refine rr_iconst pf_133_0 ?_
  refine rr_istore_n pf_133_1 (fun y => [.ref 175, .int (iI (y)), px_jk, px_jk]) (Nat.le_of_ble_eq_true rfl) (fun _ => rfl) (fun y1 hy1 => ?_)
  refine rr_iconst pf_133_2 ?_
  refine rr_istore_n pf_133_3 (fun y => [.ref 175, .int (iI (y1)), .int (iI (y)), px_jk]) (Nat.le_of_ble_eq_true rfl) (fun _ => rfl) (fun y2 hy2 => ?_)
  obtain ⟨nz3, hnz3, rfl⟩ : ∃ zz : Nat, zz = 0 ∧ y2 = ((zz : Nat) : Int) := ⟨0, rfl, by omega⟩
  refine lp_Paper_findPaneToLookAt_4 (xs := xs) (L := L) (d := d) (by omega) hW hR hρ hlw hn hn8 hct hse hpos (fun be_4 p_5 v8 M6 q7 xrq_M6 xF_M6 xb_M6 => ?_) _ y1 nz3 _ M0 rfl q0 ((fk_rf 175 [1] M0)) (by omega) (by omega)
  refine rr_iload_n pf_133_47 rfl ?_
  refine rr_iret pf_133_48 pt_133 ⟨_, M6, rfl, rfl, q7, (xF_M6.1), (xF_M6.2), (xrq_M6)⟩
theorem lkF_pos {lw : List sp_C} {ρ : Nat → Int} {n : Nat} (hn : n ≤ 8) (h : 0 < pcN lw ρ n (2 ^ n)) : ∀ p, 0 < p → 0 ≤ (lkF lw ρ n p).1 := by
  intro p
  induction p with
  | zero => intro z; omega
  | succ p ih =>
    intro _
    have h1 := mo_pos (lw := lw) (ρ := ρ) (n := n) (p := p) (2 ^ n) h
    have h2 := moN_b lw ρ n p (2 ^ n)
    have h3 := p2_b hn
    rw [lkF]
    split
    · dsimp only; omega
    · rename_i z
      cases p with
      | zero => exact absurd ⟨h1, by show _ < (100000000 : Int); omega⟩ z
      | succ p => exact ih (by omega)
theorem ct_S_look {xs : Nat → Int} {L d : Nat} {sh : List (Nat × Nat)} {M0 : Nat → Nat → Int} (hd : 9 ≤ d) (hW : px_W0 <+: sh) (hF : px_Fx M0) (hG : px_RG sh M0)  {ρ : Nat → Int} (hR : rc M0 3 = ρ) (hρ : sp_ok ρ) {lw : List sp_C} (hlw : px_lw sh M0 3 lw) {n : Nat} (hn : ρ 0 = ((n : Nat) : Int)) (hn8 : n ≤ 8) {u : Int} (hu0 : rg u) : ∃ v M, (px_qk sh [2, 13, 175, 176, 177, 180, 181] M0 M ∧ (v = sp_lok lw ρ u) ∧ (fk 175 [1, 16] M0 M)) ∧ px_Cl xs L d 132 [.ref 0, .int (iI (u))] (sh, M0) (some (.int (iI v))) (sh, M) := by
  obtain ⟨d, rfl⟩ : ∃ e, d = e + 1 := ⟨d - 1, by omega⟩
  have q0 : px_qk sh [2, 13, 175, 176, 177, 180, 181] M0 M0 := ⟨hF, hG, eo_rf⟩
  have h2n := p2_b hn8
  have hcb := pcN_le lw ρ n (2 ^ n)
  have hFb := lkF_b lw ρ n hn8 16
  refine vc_i (Nat.le_of_ble_eq_true rfl) ?_
  show px_R xs L d 132 (0, [.ref 0, .int (iI (u)), px_jk], [], (sh, M0)) (fun r h' => ∃ v M', r = some (.int (iI v)) ∧ h' = (sh, M') ∧ px_qk sh [2, 13, 175, 176, 177, 180, 181] M0 M' ∧ v = sp_lok lw ρ u ∧ fk 175 [1, 16] M0 M')
  refine rr_iload_n pf_132_0 rfl ?_
  refine rr_iconst pf_132_1 ?_
  refine rr_iconst pf_132_2 ?_
  refine rr_cS3 pf_132_3 po_132 pc_8_95 (by decide) rfl (ct_S_within (by omega) hu0 (by unfold rg; omega) (by unfold rg; omega)) ?_
  refine rr_ifb_eq 19 pf_132_6 (by decide) (fun c1 => ?_) (fun c1 => ?_)
  · refine rr_iconst pf_132_19 ?_
    refine rr_iret pf_132_20 pt_132 ⟨_, M0, rfl, rfl, q0, (by unfold sp_lok; rw [if_neg (by omega)]), ((fk_rf 175 [1, 16] M0))⟩
  · refine rr_aload_n pf_132_9 rfl ?_
    refine rr_getR pf_132_10 po_132 pg_8_57 rfl (ws_0 hW) (by decide) (wr_0_7 q0.1) ?_
    obtain ⟨r4, M2, ⟨kq3, pv_M2, pc_M2, pse_M2, pf_M2⟩, hcM2⟩ := ct_Paper_findSets (xs := xs) (L := L) (d := d) (lw := lw) (n := n) (by omega) hW q0.1 q0.2.1 hR hρ hlw hn hn8
    have q3 := qk_trm q0 kq3 (by decide)
    have rq5 := fk_tr (fk_rf 175 [1, 16] M0) pf_M2 (by decide)
    refine rr_cV0 pf_132_13 po_132 pc_8_290 (ws_175 hW) po_128 (by decide) rfl hcM2 ?_
    refine rr_if_ne 21 pf_132_16 (by decide) (by unfold rg; omega) (fun c6 => ?_) (fun c6 => ?_)
    · refine rr_aload_n pf_132_21 rfl ?_
      refine rr_getR pf_132_22 po_132 pg_8_57 rfl (ws_0 hW) (by decide) (wr_0_7 q3.1) ?_
      obtain ⟨r9, M7, ⟨kq8, pv_M7, pm_M7, pf_M7⟩, hcM7⟩ := ct_Paper_findPaneToLookAt (xs := xs) (L := L) (d := d) (lw := lw) (n := n) (by omega) hW q3.1 q3.2.1 ((rc_eo q3.2.2 (by decide)).trans hR) hρ (lw_eo hlw q3.2.2 (by decide) (by decide) (by decide)) hn hn8 pc_M2 pse_M2 (by omega)
      have q8 := qk_trm q3 kq8 (by decide)
      have rq10 := fk_tr rq5 pf_M7 (by decide)
      refine rr_cV0 pf_132_25 po_132 pc_8_296 (ws_175 hW) po_133 (by decide) rfl hcM7 ?_
      have hlb := lkF_pos (lw := lw) (ρ := ρ) hn8 (by omega) 16 (by omega)
      refine rr_istore_n pf_132_28 (fun y => [.ref 0, .int (iI (u)), .int (iI (y))]) (Nat.le_of_ble_eq_true rfl) (fun _ => rfl) (fun y11 hy11 => ?_)
      refine rr_iload_n pf_132_29 rfl ?_
      refine rr_if_ne 37 pf_132_30 (by decide) hu0 (fun c12 => ?_) (fun c12 => ?_)
      · refine rr_aload_n pf_132_37 rfl ?_
        refine rr_getR pf_132_38 po_132 pg_8_57 rfl (ws_0 hW) (by decide) (wr_0_7 q8.1) ?_
        refine vr_getI q8 pf_132_41 po_132 pg_8_299 rfl (ws_175 hW) (by decide) (fun x13 hx13 rx13 => ?_)
        rw [pm_M7] at hx13
        refine rr_iret pf_132_44 pt_132 ⟨_, M7, rfl, rfl, q8, (by unfold sp_lok; rw [show (ρ 0).toNat = n by omega, if_pos (by omega), if_neg (fun z => by rcases z with z | z <;> omega)]; omega), (rq10)⟩
      · refine rr_iload_n pf_132_33 rfl ?_
        refine rr_goto 44 pf_132_34 (by decide) ?_
        refine rr_iret pf_132_44 pt_132 ⟨_, M7, rfl, rfl, q8, (by unfold sp_lok; rw [show (ρ 0).toNat = n by omega, if_pos (by omega), if_pos (by omega)]; omega), (rq10)⟩
    · refine rr_iconst pf_132_19 ?_
      refine rr_iret pf_132_20 pt_132 ⟨_, M2, rfl, rfl, q3, (by unfold sp_lok; rw [show (ρ 0).toNat = n by omega, if_pos (by omega), lkF_0 (by omega), if_pos (Or.inl rfl)]), (rq5)⟩

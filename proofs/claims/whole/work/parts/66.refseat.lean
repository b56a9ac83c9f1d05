/-! seats: the reference's search, as a function -/
def fup (t : Nat → Int) (k : Nat) (x : Int) : Nat → Int := fun j => if j = k then x else t j
def newB (t : Nat → Int) (k : Nat) : Nat → Bool
  | 0 => true
  | i + 1 => newB t k i && decide (t i ≠ t k)
def sumD (D : Nat → Nat → Int) (t : Nat → Int) : Nat → Int
  | 0 => 0
  | l + 1 => sumD D t l + D l (t l).toNat
def cpy (t b : Nat → Int) (n : Nat) : Nat → Int := fun j => if j < n then t j else b j
def fsS (n : Nat) (D : Nat → Nat → Int) : Nat → Int → (Nat → Int) → Int → (Nat → Int) → Option (Int × (Nat → Int))
  | 0, _, _, _, _ => none
  | f + 1, k, t, mo, b =>
    if k < 0 then some (mo, b)
    else if k = n then (if mo < sumD D (fup t k.toNat (t k.toNat + 1)) n then fsS n D f (k - 1) (fup t k.toNat (t k.toNat + 1)) (sumD D (fup t k.toNat (t k.toNat + 1)) n) (cpy (fup t k.toNat (t k.toNat + 1)) b n) else fsS n D f (k - 1) (fup t k.toNat (t k.toNat + 1)) mo b)
    else if 8 ≤ t k.toNat + 1 then fsS n D f (k - 1) (fup t k.toNat (t k.toNat + 1)) mo b
    else if newB (fup t k.toNat (t k.toNat + 1)) k.toNat k.toNat = true then fsS n D f (k + 1) (fup (fup t k.toNat (t k.toNat + 1)) (k.toNat + 1) (-1)) mo b
    else fsS n D f k (fup t k.toNat (t k.toNat + 1)) mo b
theorem sumD_b {D : Nat → Nat → Int} (hD : ∀ l s, -9 ≤ D l s ∧ D l s ≤ 9) (t : Nat → Int) : ∀ n : Nat, -9 * (n : Int) ≤ sumD D t n ∧ sumD D t n ≤ 9 * n := by
  intro n
  induction n with
  | zero => simp [sumD]
  | succ n ih => have := hD n (t n).toNat; simp only [sumD]; omega
theorem newB_f {t : Nat → Int} {k i : Nat} (h : newB t k i = false) : ∀ j, newB t k (i + j) = false := by
  intro j
  induction j with
  | zero => exact h
  | succ j ih => rw [← Nat.add_assoc, newB, ih, Bool.false_and]
theorem fup_s (t : Nat → Int) (k : Nat) (x : Int) : fup t k x k = x := by unfold fup; rw [if_pos rfl]
theorem fup_n {t : Nat → Int} {k j : Nat} {x : Int} (h : j ≠ k) : fup t k x j = t j := by unfold fup; rw [if_neg h]
theorem sumD_congr {D : Nat → Nat → Int} {t t2 : Nat → Int} : ∀ n, (∀ j, j < n → t j = t2 j) → sumD D t n = sumD D t2 n := by
  intro n
  induction n with
  | zero => intro _; rfl
  | succ n ih => intro h; simp only [sumD]; rw [ih (fun j hj => h j (by omega)), h n (by omega)]
theorem newB_congr {t t2 : Nat → Int} {k : Nat} (hk : t k = t2 k) : ∀ n, (∀ j, j < n → t j = t2 j) → newB t k n = newB t2 k n := by
  intro n
  induction n with
  | zero => intro _; rfl
  | succ n ih => intro h; simp only [newB]; rw [ih (fun j hj => h j (by omega)), h n (by omega), hk]
theorem lp_R_isNew_4 {xs : Nat → Int} {L d : Nat} {sh : List (Nat × Nat)}  (hW : px_W0 <+: sh) {M0 : Nat → Nat → Int}  {k : Nat} (hk : k < 7)  {Q : Option Value → px_H → Prop} (kx : ∀ (so : Int) (i : Nat) (M : Nat → Nat → Int), px_qk sh [] M0 M → ((so = 1 ∧ newB (M0 256) k k = true) ∨ (so = 0 ∧ newB (M0 256) k k = false)) → px_R xs L d 278 (40, [.ref 228, .int (iI (((k : Nat) : Int))), .int (iI (so)), .int (iI (((i : Nat) : Int)))], [], (sh, M)) Q)  : ∀ (mz : Nat) (so : Int) (i : Nat) (M : Nat → Nat → Int), k - i = mz → px_qk sh [] M0 M → (i ≤ k) → ((so = 1 ∧ newB (M0 256) k i = true) ∨ (so = 0 ∧ newB (M0 256) k i = false)) → px_R xs L d 278 (4, [.ref 228, .int (iI (((k : Nat) : Int))), .int (iI (so)), .int (iI (((i : Nat) : Int)))], [], (sh, M)) Q := by
  intro mz
  induction mz using Nat.strongRecOn with
  | _ mz ih =>
    intro so i M hm hq hi hf
    refine rr_iload_n pf_278_4 rfl ?_
    refine rr_iload_n pf_278_5 rfl ?_
    refine rr_icmp_ge 40 pf_278_6 (by decide) (by unfold rg; omega) (by unfold rg; omega) (fun c1 => ?_) (fun c1 => ?_)
    · exact kx so i M hq (by
                  have e : i = k := by omega
                  rw [e] at hf; exact hf)
    · refine rr_iload_n pf_278_9 rfl ?_
      refine rr_if_eq 32 pf_278_10 (by decide) (by unfold rg; omega) (fun c2 => ?_) (fun c2 => ?_)
      · refine rr_iconst pf_278_32 ?_
        refine rr_istore_n pf_278_33 (fun y => [.ref 228, .int (iI (((k : Nat) : Int))), .int (iI (y)), .int (iI (((i : Nat) : Int)))]) (Nat.le_of_ble_eq_true rfl) (fun _ => rfl) (fun y3 hy3 => ?_)
        refine rr_iinc pf_278_34 rfl (fun y => [.ref 228, .int (iI (((k : Nat) : Int))), .int (iI (y3)), .int (iI (y))]) (fun _ => rfl) (fun y4 hy4 => ?_)
        refine rr_goto 4 pf_278_37 (by decide) ?_
        obtain ⟨nz5, hnz5, rfl⟩ : ∃ zz : Nat, zz = 1 + i ∧ y4 = ((zz : Nat) : Int) := ⟨1 + i, rfl, by omega⟩
        exact ih _ (by omega) y3 nz5 M rfl hq (by omega) (by
                      rw [show nz5 = i + 1 by omega, newB]
                      have ht := (hf.resolve_left (fun z => by omega)).2; rw [ht]; right; exact ⟨by omega, rfl⟩)
      · refine rr_aload_n pf_278_13 rfl ?_
        refine rr_getR pf_278_14 po_278 pg_9_137 rfl (ws_228 hW) (by decide) (wr_228_48 hq.1) ?_
        refine rr_iload_n pf_278_17 rfl ?_
        refine vr_iald (j := i) hq pf_278_18 (ws_256 hW) (by omega) (by omega) (by decide) (fun x6 hx6 rx6 => ?_)
        rw [hq.2.2 256 (by decide)] at hx6
        refine rr_aload_n pf_278_19 rfl ?_
        refine rr_getR pf_278_20 po_278 pg_9_137 rfl (ws_228 hW) (by decide) (wr_228_48 hq.1) ?_
        refine rr_iload_n pf_278_23 rfl ?_
        refine vr_iald (j := k) hq pf_278_24 (ws_256 hW) (by omega) (by omega) (by decide) (fun x7 hx7 rx7 => ?_)
        rw [hq.2.2 256 (by decide)] at hx7
        refine rr_icmp_eq 32 pf_278_25 (by decide) rx6 rx7 (fun c8 => ?_) (fun c8 => ?_)
        · refine rr_iconst pf_278_32 ?_
          refine rr_istore_n pf_278_33 (fun y => [.ref 228, .int (iI (((k : Nat) : Int))), .int (iI (y)), .int (iI (((i : Nat) : Int)))]) (Nat.le_of_ble_eq_true rfl) (fun _ => rfl) (fun y9 hy9 => ?_)
          refine rr_iinc pf_278_34 rfl (fun y => [.ref 228, .int (iI (((k : Nat) : Int))), .int (iI (y9)), .int (iI (y))]) (fun _ => rfl) (fun y10 hy10 => ?_)
          refine rr_goto 4 pf_278_37 (by decide) ?_
          obtain ⟨nz11, hnz11, rfl⟩ : ∃ zz : Nat, zz = 1 + i ∧ y10 = ((zz : Nat) : Int) := ⟨1 + i, rfl, by omega⟩
          exact ih _ (by omega) y9 nz11 M rfl hq (by omega) (by
                          rw [show nz11 = i + 1 by omega, newB]
                          have ht := (hf.resolve_right (fun z => by omega)).2; rw [ht, Bool.true_and]; right; exact ⟨by omega, decide_eq_false (by omega)⟩)
        · refine rr_iconst pf_278_28 ?_
          refine rr_goto 33 pf_278_29 (by decide) ?_
          refine rr_istore_n pf_278_33 (fun y => [.ref 228, .int (iI (((k : Nat) : Int))), .int (iI (y)), .int (iI (((i : Nat) : Int)))]) (Nat.le_of_ble_eq_true rfl) (fun _ => rfl) (fun y12 hy12 => ?_)
          refine rr_iinc pf_278_34 rfl (fun y => [.ref 228, .int (iI (((k : Nat) : Int))), .int (iI (y12)), .int (iI (y))]) (fun _ => rfl) (fun y13 hy13 => ?_)
          refine rr_goto 4 pf_278_37 (by decide) ?_
          obtain ⟨nz14, hnz14, rfl⟩ : ∃ zz : Nat, zz = 1 + i ∧ y13 = ((zz : Nat) : Int) := ⟨1 + i, rfl, by omega⟩
          exact ih _ (by omega) y12 nz14 M rfl hq (by omega) (by
                          rw [show nz14 = i + 1 by omega, newB]
                          have ht := (hf.resolve_right (fun z => by omega)).2; rw [ht, Bool.true_and]; left; exact ⟨by omega, decide_eq_true (by omega)⟩)
theorem ct_R_isNew {xs : Nat → Int} {L d : Nat} {sh : List (Nat × Nat)} {M0 : Nat → Nat → Int} (hd : 1 ≤ d) (hW : px_W0 <+: sh) (hF : px_Fx M0) (hG : px_RG sh M0)  {k : Nat} (hk : k < 7) : ∃ M, (px_qk sh [] M0 M) ∧ px_Cl xs L d 278 [.ref 228, .int (iI (((k : Nat) : Int)))] (sh, M0) (some (.int (iI (bI (newB (M0 256) k k = true))))) (sh, M) := by
  obtain ⟨d, rfl⟩ : ∃ e, d = e + 1 := ⟨d - 1, by omega⟩
  have q0 : px_qk sh [] M0 M0 := ⟨hF, hG, eo_rf⟩
  refine vc_n (Nat.le_of_ble_eq_true rfl) ?_
  show px_R xs L d 278 (0, [.ref 228, .int (iI (((k : Nat) : Int))), px_jk, px_jk], [], (sh, M0)) (fun r h' => r = some (.int (iI (bI (newB (M0 256) k k = true)))) ∧ ∃ M', h' = (sh, M') ∧ px_qk sh [] M0 M')
  refine rr_iconst pf_278_0 ?_
  refine rr_istore_n pf_278_1 (fun y => [.ref 228, .int (iI (((k : Nat) : Int))), .int (iI (y)), px_jk]) (Nat.le_of_ble_eq_true rfl) (fun _ => rfl) (fun y1 hy1 => ?_)
  refine rr_iconst pf_278_2 ?_
  refine rr_istore_n pf_278_3 (fun y => [.ref 228, .int (iI (((k : Nat) : Int))), .int (iI (y1)), .int (iI (y))]) (Nat.le_of_ble_eq_true rfl) (fun _ => rfl) (fun y2 hy2 => ?_)
  obtain ⟨nz3, hnz3, rfl⟩ : ∃ zz : Nat, zz = 0 ∧ y2 = ((zz : Nat) : Int) := ⟨0, rfl, by omega⟩
  refine lp_R_isNew_4 (xs := xs) (L := L) (d := d)  hW hk (fun so_4 i_5  M6 q7 xf_M6 => ?_) _ y1 nz3 M0 rfl q0 (by omega) (by rw [show nz3 = 0 by omega]; exact Or.inl ⟨by omega, rfl⟩)
  have hxf := xf_M6
  have hso : so_4 = 0 ∨ so_4 = 1 := by rcases hxf with z | z <;> omega
  have hsf : so_4 = bI (newB (M0 256) k k = true) := by
    rcases hxf with ⟨z1, z2⟩ | ⟨z1, z2⟩
    · rw [bI_t z2]; exact z1
    · rw [bI_f (by rw [z2]; decide)]; exact z1
  refine rr_iload_n pf_278_40 rfl ?_
  refine rr_zret pf_278_41 pt_278 (by first | exact Or.inl rfl | exact Or.inr rfl | omega) ⟨by congr 3; try exact hsf, M6, rfl, q7⟩
theorem fsS_s {n : Nat} {D : Nat → Nat → Int} {f : Nat} {k : Int} {t : Nat → Int} {mo : Int} {b : Nat → Int} {res : Int × (Nat → Int)} (h : fsS n D f k t mo b = some res) (hk : 0 ≤ k) : ∃ f', f = f' + 1 ∧ (if k = n then (if mo < sumD D (fup t k.toNat (t k.toNat + 1)) n then fsS n D f' (k - 1) (fup t k.toNat (t k.toNat + 1)) (sumD D (fup t k.toNat (t k.toNat + 1)) n) (cpy (fup t k.toNat (t k.toNat + 1)) b n) else fsS n D f' (k - 1) (fup t k.toNat (t k.toNat + 1)) mo b)
    else if 8 ≤ t k.toNat + 1 then fsS n D f' (k - 1) (fup t k.toNat (t k.toNat + 1)) mo b
    else if newB (fup t k.toNat (t k.toNat + 1)) k.toNat k.toNat = true then fsS n D f' (k + 1) (fup (fup t k.toNat (t k.toNat + 1)) (k.toNat + 1) (-1)) mo b
    else fsS n D f' k (fup t k.toNat (t k.toNat + 1)) mo b) = some res := by
  cases f with
  | zero => cases h
  | succ f => rw [fsS, if_neg (by omega)] at h; exact ⟨f, rfl, h⟩
theorem fsS_e {n : Nat} {D : Nat → Nat → Int} {f : Nat} {k : Int} {t : Nat → Int} {mo : Int} {b : Nat → Int} {res : Int × (Nat → Int)} (h : fsS n D f k t mo b = some res) (hk : k < 0) : (mo, b) = res := by
  cases f with
  | zero => cases h
  | succ f => rw [fsS, if_pos hk] at h; exact Option.some.inj h
theorem lp_R_findSeated_117 {xs : Nat → Int} {L d : Nat} {sh : List (Nat × Nat)} (hd : 1 ≤ d) (hW : px_W0 <+: sh) {M0 : Nat → Nat → Int}  (hρ : sp_ok (rr_ M0)) {n : Nat} (hn : rr_ M0 1 = ((n : Nat) : Int)) (hn6 : n ≤ 6) {D : Nat → Nat → Int} (hD : ∀ l s, -9 ≤ D l s ∧ D l s ≤ 9) (hds : ∀ l s, l < n → s < 8 → M0 255 (s + 8 * l) = D l s) {mo k v be : Int} (hbe : be = 0 ∨ be = 1) {T b : Nat → Int} {Q : Option Value → px_H → Prop} (kx : ∀ (l : Nat) (M : Nat → Nat → Int), px_qk sh [256, 257] M0 M → (∀ j, j < 7 → M 256 j = T j) → (∀ j, j < 6 → M 257 j = if be = 1 then cpy T b n j else b j) → px_R xs L d 277 (148, [.ref 228, .int (iI (((n : Nat) : Int))), .int (iI (mo)), .int (iI (k)), .int (iI (v)), .int (iI (be)), .int (iI (((l : Nat) : Int)))], [], (sh, M)) Q)  : ∀ (mz : Nat) (l : Nat) (M : Nat → Nat → Int), n - l = mz → px_qk sh [256, 257] M0 M → (l ≤ n) → (∀ j, j < 7 → M 256 j = T j) → ((be = 0 → l = 0) ∧ ∀ j, j < 6 → M 257 j = if j < l then T j else b j) → px_R xs L d 277 (117, [.ref 228, .int (iI (((n : Nat) : Int))), .int (iI (mo)), .int (iI (k)), .int (iI (v)), .int (iI (be)), .int (iI (((l : Nat) : Int)))], [], (sh, M)) Q := by
  intro mz
  induction mz using Nat.strongRecOn with
  | _ mz ih =>
    intro l M hm hq hl hMT hc
    refine rr_iload pf_277_117 rfl ?_
    refine rr_iload_n pf_277_119 rfl ?_
    refine rr_icmp_ge 148 pf_277_120 (by decide) (by unfold rg; omega) (by unfold rg; omega) (fun c1 => ?_) (fun c1 => ?_)
    · exact kx l M hq (hMT) (by
                  intro j hj; rw [hc.2 j hj]; unfold cpy; rw [show l = n by omega]; rcases hbe with z | z
                  · have := hc.1 z; rw [if_neg (by omega), if_neg (by omega)]
                  · rw [if_pos z])
    · refine rr_iload pf_277_123 rfl ?_
      refine rr_if_eq 148 pf_277_125 (by decide) (by unfold rg; omega) (fun c2 => ?_) (fun c2 => ?_)
      · exact kx l M hq (hMT) (by intro j hj; rw [hc.2 j hj]; rw [if_neg (c := be = 1) (by omega), if_neg]; have := hc.1 (by omega); omega)
      · refine rr_aload_n pf_277_128 rfl ?_
        refine rr_getR pf_277_129 po_277 pg_9_140 rfl (ws_228 hW) (by decide) (wr_228_49 hq.1) ?_
        refine rr_iload pf_277_132 rfl ?_
        refine rr_aload_n pf_277_134 rfl ?_
        refine rr_getR pf_277_135 po_277 pg_9_137 rfl (ws_228 hW) (by decide) (wr_228_48 hq.1) ?_
        refine rr_iload pf_277_138 rfl ?_
        refine vr_iald (j := l) hq pf_277_140 (ws_256 hW) (by omega) (by omega) (by decide) (fun x3 hx3 rx3 => ?_)
        rw [hMT l (by omega)] at hx3
        have hx9 := hx3
        refine vr_iast (j := l) hW hq pf_277_141 (ws_257 hW) (by omega) (by omega) (by decide) rx3 (by decide) (fun M4 eM4 q5 => ?_)
        refine rr_iinc pf_277_142 rfl (fun y => [.ref 228, .int (iI (((n : Nat) : Int))), .int (iI (mo)), .int (iI (k)), .int (iI (v)), .int (iI (be)), .int (iI (y))]) (fun _ => rfl) (fun y6 hy6 => ?_)
        refine rr_goto 117 pf_277_145 (by decide) ?_
        obtain ⟨nz7, hnz7, rfl⟩ : ∃ zz : Nat, zz = 1 + l ∧ y6 = ((zz : Nat) : Int) := ⟨1 + l, rfl, by omega⟩
        exact ih _ (by omega) nz7 M4 rfl q5 (by omega) (by intro j hj; rw [eM4, ask_ne (by decide)]; exact hMT j hj) (by
                      refine ⟨fun z => by omega, fun j hj => ?_⟩
                      rw [eM4, ask_up]; by_cases hz : j = l
                      · rw [if_pos hz, if_pos (by omega), hz, hx9]
                      · rw [if_neg hz, hc.2 j hj]; by_cases hy : j < l
                        · rw [if_pos hy, if_pos (by omega)]
                        · rw [if_neg hy, if_neg (by omega)])
theorem lp_R_findSeated_56 {xs : Nat → Int} {L d : Nat} {sh : List (Nat × Nat)} (hd : 1 ≤ d) (hW : px_W0 <+: sh) {M0 : Nat → Nat → Int}  (hρ : sp_ok (rr_ M0)) {n : Nat} (hn : rr_ M0 1 = ((n : Nat) : Int)) (hn6 : n ≤ 6) {D : Nat → Nat → Int} (hD : ∀ l s, -9 ≤ D l s ∧ D l s ≤ 9) (hds : ∀ l s, l < n → s < 8 → M0 255 (s + 8 * l) = D l s) {mo k : Int} (hkb : 0 ≤ k ∧ k ≤ n) {T : Nat → Int} (hT : k = n → ∀ j, j < n → 0 ≤ T j ∧ T j ≤ 7) {Mb : Nat → Nat → Int} {Q : Option Value → px_H → Prop} (kx : ∀ (v : Int) (l : Nat) (v6 : Value) (M : Nat → Nat → Int), px_qk sh [256, 257] M0 M → (k = n → v = sumD D T n) → (-100 ≤ v ∧ v ≤ 100) → (∀ j, j < 7 → M 256 j = T j) → (M 257 = Mb 257) → px_R xs L d 277 (96, [.ref 228, .int (iI (((n : Nat) : Int))), .int (iI (mo)), .int (iI (k)), .int (iI (v)), .int (iI (((l : Nat) : Int))), v6], [], (sh, M)) Q)  : ∀ (mz : Nat) (v : Int) (l : Nat) (v6 : Value) (M : Nat → Nat → Int), n - l = mz → px_qk sh [256, 257] M0 M → (l ≤ n) → (∀ j, j < 7 → M 256 j = T j) → ((k = n → v = sumD D T l) ∧ -100 ≤ v ∧ v ≤ 100 ∧ (k ≠ n → l = 0)) → (M 257 = Mb 257) → px_R xs L d 277 (56, [.ref 228, .int (iI (((n : Nat) : Int))), .int (iI (mo)), .int (iI (k)), .int (iI (v)), .int (iI (((l : Nat) : Int))), v6], [], (sh, M)) Q := by
  intro mz
  induction mz using Nat.strongRecOn with
  | _ mz ih =>
    intro v l v6 M hm hq hl hMT hv h57
    have hsb := sumD_b hD T l
    refine rr_iload pf_277_56 rfl ?_
    refine rr_iload_n pf_277_58 rfl ?_
    refine rr_icmp_ge 96 pf_277_59 (by decide) (by unfold rg; omega) (by unfold rg; omega) (fun c1 => ?_) (fun c1 => ?_)
    · exact kx v l _ M hq (by intro hk; have := hv.1 hk; rw [this, show l = n by omega]) (by omega) (hMT) (h57)
    · refine rr_iload_n pf_277_62 rfl ?_
      refine rr_iload_n pf_277_63 rfl ?_
      refine rr_icmp_ne 96 pf_277_64 (by decide) (by unfold rg; omega) (by unfold rg; omega) (fun c2 => ?_) (fun c2 => ?_)
      · exact kx v l _ M hq (by intro hk; have := hv.1 hk; rw [this, show l = n by omega]) (by omega) (hMT) (h57)
      · refine rr_iload pf_277_67 rfl ?_
        refine rr_aload_n pf_277_69 rfl ?_
        refine rr_getR pf_277_70 po_277 pg_9_134 rfl (ws_228 hW) (by decide) (wr_228_47 hq.1) ?_
        refine rr_bipush pf_277_73 (by decide) ?_
        refine rr_iload pf_277_75 rfl ?_
        refine rr_imul pf_277_77 ?_
        refine rr_aload_n pf_277_78 rfl ?_
        refine rr_getR pf_277_79 po_277 pg_9_137 rfl (ws_228 hW) (by decide) (wr_228_48 hq.1) ?_
        refine rr_iload pf_277_82 rfl ?_
        refine vr_iald (j := l) hq pf_277_84 (ws_256 hW) (by omega) (by omega) (by decide) (fun x3 hx3 rx3 => ?_)
        rw [hMT l (by omega)] at hx3
        have hTl := hT (by omega) l (by omega)
        refine rr_iadd pf_277_85 ?_
        refine vr_iald (j := (T l).toNat + 8 * l) hq pf_277_86 (ws_255 hW) (by omega) (by omega) (by decide) (fun x4 hx4 rx4 => ?_)
        rw [hq.2.2 255 (by decide)] at hx4
        rw [hds l (T l).toNat (by omega) (by omega)] at hx4
        have hDl := hD l (T l).toNat
        refine rr_iadd pf_277_87 ?_
        refine rr_istore pf_277_88 (fun y => [.ref 228, .int (iI (((n : Nat) : Int))), .int (iI (mo)), .int (iI (k)), .int (iI (y)), .int (iI (((l : Nat) : Int))), v6]) (Nat.le_of_ble_eq_true rfl) (fun _ => rfl) (fun y5 hy5 => ?_)
        refine rr_iinc pf_277_90 rfl (fun y => [.ref 228, .int (iI (((n : Nat) : Int))), .int (iI (mo)), .int (iI (k)), .int (iI (y5)), .int (iI (y)), v6]) (fun _ => rfl) (fun y6 hy6 => ?_)
        refine rr_goto 56 pf_277_93 (by decide) ?_
        obtain ⟨nz7, hnz7, rfl⟩ : ∃ zz : Nat, zz = 1 + l ∧ y6 = ((zz : Nat) : Int) := ⟨1 + l, rfl, by omega⟩
        exact ih _ (by omega) y5 nz7 _ M rfl hq (by omega) (hMT) (by
                      have hv1 := hv.1 (by omega)
                      refine ⟨fun _ => ?_, by omega, by omega, fun z => by omega⟩
                      rw [show nz7 = l + 1 by omega, sumD]; omega) (h57)
theorem lp_R_findSeated_20 {xs : Nat → Int} {L d : Nat} {sh : List (Nat × Nat)} (hd : 1 ≤ d) (hW : px_W0 <+: sh) {M0 : Nat → Nat → Int}  (hρ : sp_ok (rr_ M0)) {n : Nat} (hn : rr_ M0 1 = ((n : Nat) : Int)) (hn6 : n ≤ 6) {D : Nat → Nat → Int} (hD : ∀ l s, -9 ≤ D l s ∧ D l s ≤ 9) (hds : ∀ l s, l < n → s < 8 → M0 255 (s + 8 * l) = D l s) {res : Int × (Nat → Int)} {Q : Option Value → px_H → Prop} (kx : ∀ (t : Nat → Int) (b : Nat → Int) (f : Nat) (mo : Int) (k : Int) (v4 : Value) (v5 : Value) (v6 : Value) (M : Nat → Nat → Int), px_qk sh [256, 257] M0 M → (mo = res.1) → (∀ j, j < 6 → M 257 j = res.2 j) → (-100000000 ≤ mo ∧ mo ≤ 100) → px_R xs L d 277 (187, [.ref 228, .int (iI (((n : Nat) : Int))), .int (iI (mo)), .int (iI (k)), v4, v5, v6], [], (sh, M)) Q)  : ∀ (mz : Nat) (t : Nat → Int) (b : Nat → Int) (f : Nat) (mo : Int) (k : Int) (v4 : Value) (v5 : Value) (v6 : Value) (M : Nat → Nat → Int), f = mz → px_qk sh [256, 257] M0 M → (-1 ≤ k ∧ k ≤ n) → (-100000000 ≤ mo ∧ mo ≤ 100) → (∀ l : Nat, (l : Int) < k → 0 ≤ t l ∧ t l ≤ 7) → (0 ≤ k → -1 ≤ t k.toNat ∧ t k.toNat ≤ 7) → (∀ j, j < 7 → M 256 j = t j) → (∀ j, j < 6 → M 257 j = b j) → (fsS n D f k t mo b = some res) → px_R xs L d 277 (20, [.ref 228, .int (iI (((n : Nat) : Int))), .int (iI (mo)), .int (iI (k)), v4, v5, v6], [], (sh, M)) Q := by
  intro mz
  induction mz using Nat.strongRecOn with
  | _ mz ih =>
    intro t b f mo k v4 v5 v6 M hm hq hk hmo ht htk hM hb hfs
    refine rr_iload_n pf_277_20 rfl ?_
    refine rr_if_lt 187 pf_277_21 (by decide) (by unfold rg; omega) (fun c1 => ?_) (fun c1 => ?_)
    · exact kx t b f mo k _ _ _ M hq (by rw [← fsS_e hfs (by omega)]) (by intro j hj; rw [hb j hj, ← fsS_e hfs (by omega)]) (hmo)
    · obtain ⟨f2, rfl, hfs2⟩ := fsS_s hfs (by omega)
      have htk2 := htk (by omega)
      have hsb := sumD_b hD (fup t k.toNat (t k.toNat + 1)) n
      refine rr_aload_n pf_277_24 rfl ?_
      refine rr_getR pf_277_25 po_277 pg_9_137 rfl (ws_228 hW) (by decide) (wr_228_48 hq.1) ?_
      refine rr_iload_n pf_277_28 rfl ?_
      refine rr_dup2 pf_277_29 rfl rfl ?_
      refine vr_iald (j := k.toNat) hq pf_277_30 (ws_256 hW) (by omega) (by omega) (by decide) (fun x2 hx2 rx2 => ?_)
      rw [hM k.toNat (by omega)] at hx2
      refine rr_iconst pf_277_31 ?_
      refine rr_iadd pf_277_32 ?_
      refine vr_iast (j := k.toNat) hW hq pf_277_33 (ws_256 hW) (by omega) (by omega) (by decide) (by unfold rg; omega) (by decide) (fun M3 eM3 q4 => ?_)
      refine rr_iload_n pf_277_34 rfl ?_
      refine rr_iload_n pf_277_35 rfl ?_
      refine rr_icmp_eq 50 pf_277_36 (by decide) (by unfold rg; omega) (by unfold rg; omega) (fun c5 => ?_) (fun c5 => ?_)
      · refine rr_iconst pf_277_50 ?_
        refine rr_istore pf_277_51 (fun y => [.ref 228, .int (iI (((n : Nat) : Int))), .int (iI (mo)), .int (iI (k)), .int (iI (y)), v5, v6]) (Nat.le_of_ble_eq_true rfl) (fun _ => rfl) (fun y6 hy6 => ?_)
        refine rr_iconst pf_277_53 ?_
        refine rr_istore pf_277_54 (fun y => [.ref 228, .int (iI (((n : Nat) : Int))), .int (iI (mo)), .int (iI (k)), .int (iI (y6)), .int (iI (y)), v6]) (Nat.le_of_ble_eq_true rfl) (fun _ => rfl) (fun y7 hy7 => ?_)
        obtain ⟨nz8, hnz8, rfl⟩ : ∃ zz : Nat, zz = 0 ∧ y7 = ((zz : Nat) : Int) := ⟨0, rfl, by omega⟩
        refine lp_R_findSeated_56 (xs := xs) (L := L) (d := d) (by omega) hW hρ hn hn6 hD hds (by omega) (T := (fup t k.toNat (t k.toNat + 1))) (fun hz j hj => by rw [fup_n (by omega)]; exact ht j (by omega)) (Mb := M) (fun v_9 l_10 v13 M11 q12 xv_M11 xvb_M11 xMT_M11 x57_M11 => ?_) _ y6 nz8 _ M3 rfl q4 (by omega) (by
                      intro j hj; rw [eM3, ask_up]; unfold fup; split
                      · omega
                      · exact hM j hj) (by refine ⟨fun _ => ?_, by omega, by omega, fun _ => by omega⟩; rw [show nz8 = 0 by omega]; exact hy6) (by rw [eM3, ask_ne (by decide)])
        have hxv := xv_M11
        have hxvb := xvb_M11
        refine rr_iload_n pf_277_96 rfl ?_
        refine rr_iload_n pf_277_97 rfl ?_
        refine rr_icmp_ne 111 pf_277_98 (by decide) (by unfold rg; omega) (by unfold rg; omega) (fun c14 => ?_) (fun c14 => ?_)
        · exfalso; omega
        · refine rr_iload pf_277_101 rfl ?_
          refine rr_iload_n pf_277_103 rfl ?_
          refine rr_icmp_le 111 pf_277_104 (by decide) (by unfold rg; omega) (by unfold rg; omega) (fun c15 => ?_) (fun c15 => ?_)
          · refine rr_iconst pf_277_111 ?_
            refine rr_istore pf_277_112 (fun y => [.ref 228, .int (iI (((n : Nat) : Int))), .int (iI (mo)), .int (iI (k)), .int (iI (v_9)), .int (iI (y)), v13]) (Nat.le_of_ble_eq_true rfl) (fun _ => rfl) (fun y16 hy16 => ?_)
            refine rr_iconst pf_277_114 ?_
            refine rr_istore pf_277_115 (fun y => [.ref 228, .int (iI (((n : Nat) : Int))), .int (iI (mo)), .int (iI (k)), .int (iI (v_9)), .int (iI (y16)), .int (iI (y))]) (Nat.le_of_ble_eq_true rfl) (fun _ => rfl) (fun y17 hy17 => ?_)
            obtain ⟨nz18, hnz18, rfl⟩ : ∃ zz : Nat, zz = 0 ∧ y17 = ((zz : Nat) : Int) := ⟨0, rfl, by omega⟩
            refine lp_R_findSeated_117 (xs := xs) (L := L) (d := d) (by omega) hW hρ hn hn6 hD hds (by omega) (T := (fup t k.toNat (t k.toNat + 1))) (b := b) (fun l_19  M20 q21 xMT_M20 xc_M20 => ?_) _ nz18 M11 rfl q12 (by omega) (xMT_M11) (by exact ⟨fun _ => by omega, fun j hj => by rw [if_neg (by omega), x57_M11]; exact hb j hj⟩)
            refine rr_iload pf_277_148 rfl ?_
            refine rr_if_eq 158 pf_277_150 (by decide) (by unfold rg; omega) (fun c22 => ?_) (fun c22 => ?_)
            · refine rr_iload_n pf_277_158 rfl ?_
              refine rr_istore_n pf_277_159 (fun y => [.ref 228, .int (iI (((n : Nat) : Int))), .int (iI (y)), .int (iI (k)), .int (iI (v_9)), .int (iI (y16)), .int (iI (((l_19 : Nat) : Int)))]) (Nat.le_of_ble_eq_true rfl) (fun _ => rfl) (fun y23 hy23 => ?_)
              refine rr_iinc pf_277_160 rfl (fun y => [.ref 228, .int (iI (((n : Nat) : Int))), .int (iI (y23)), .int (iI (y)), .int (iI (v_9)), .int (iI (y16)), .int (iI (((l_19 : Nat) : Int)))]) (fun _ => rfl) (fun y24 hy24 => ?_)
              refine rr_goto 20 pf_277_163 (by decide) ?_
              exact ih _ (by omega) (fup t k.toNat (t k.toNat + 1)) b f2 y23 y24 _ _ _ M20 rfl q21 (by omega) (by omega) (by intro l hl; rw [fup_n (by omega)]; exact ht l (by omega)) (by intro hz; rw [fup_n (by omega)]; have := ht (y24).toNat (by omega); omega) (xMT_M20) (by intro j hj; rw [xc_M20 j hj, if_neg (by omega)]) (by rw [if_pos (by omega), if_neg (by omega)] at hfs2; rw [show (y24 : Int) = k - 1 by omega, show (y23 : Int) = mo by omega]; exact hfs2)
            · exfalso; omega
          · refine rr_iconst pf_277_107 ?_
            refine rr_goto 112 pf_277_108 (by decide) ?_
            refine rr_istore pf_277_112 (fun y => [.ref 228, .int (iI (((n : Nat) : Int))), .int (iI (mo)), .int (iI (k)), .int (iI (v_9)), .int (iI (y)), v13]) (Nat.le_of_ble_eq_true rfl) (fun _ => rfl) (fun y25 hy25 => ?_)
            refine rr_iconst pf_277_114 ?_
            refine rr_istore pf_277_115 (fun y => [.ref 228, .int (iI (((n : Nat) : Int))), .int (iI (mo)), .int (iI (k)), .int (iI (v_9)), .int (iI (y25)), .int (iI (y))]) (Nat.le_of_ble_eq_true rfl) (fun _ => rfl) (fun y26 hy26 => ?_)
            obtain ⟨nz27, hnz27, rfl⟩ : ∃ zz : Nat, zz = 0 ∧ y26 = ((zz : Nat) : Int) := ⟨0, rfl, by omega⟩
            refine lp_R_findSeated_117 (xs := xs) (L := L) (d := d) (by omega) hW hρ hn hn6 hD hds (by omega) (T := (fup t k.toNat (t k.toNat + 1))) (b := b) (fun l_28  M29 q30 xMT_M29 xc_M29 => ?_) _ nz27 M11 rfl q12 (by omega) (xMT_M11) (by exact ⟨fun _ => by omega, fun j hj => by rw [if_neg (by omega), x57_M11]; exact hb j hj⟩)
            refine rr_iload pf_277_148 rfl ?_
            refine rr_if_eq 158 pf_277_150 (by decide) (by unfold rg; omega) (fun c31 => ?_) (fun c31 => ?_)
            · exfalso; omega
            · refine rr_iload pf_277_153 rfl ?_
              refine rr_goto 159 pf_277_155 (by decide) ?_
              refine rr_istore_n pf_277_159 (fun y => [.ref 228, .int (iI (((n : Nat) : Int))), .int (iI (y)), .int (iI (k)), .int (iI (v_9)), .int (iI (y25)), .int (iI (((l_28 : Nat) : Int)))]) (Nat.le_of_ble_eq_true rfl) (fun _ => rfl) (fun y32 hy32 => ?_)
              refine rr_iinc pf_277_160 rfl (fun y => [.ref 228, .int (iI (((n : Nat) : Int))), .int (iI (y32)), .int (iI (y)), .int (iI (v_9)), .int (iI (y25)), .int (iI (((l_28 : Nat) : Int)))]) (fun _ => rfl) (fun y33 hy33 => ?_)
              refine rr_goto 20 pf_277_163 (by decide) ?_
              exact ih _ (by omega) (fup t k.toNat (t k.toNat + 1)) (cpy (fup t k.toNat (t k.toNat + 1)) b n) f2 y32 y33 _ _ _ M29 rfl q30 (by omega) (by omega) (by intro l hl; rw [fup_n (by omega)]; exact ht l (by omega)) (by intro hz; rw [fup_n (by omega)]; have := ht (y33).toNat (by omega); omega) (xMT_M29) (by intro j hj; rw [xc_M29 j hj, if_pos (by omega)]) (by rw [if_pos (by omega), if_pos (by omega)] at hfs2; rw [show (y33 : Int) = k - 1 by omega, show (y32 : Int) = sumD D (fup t k.toNat (t k.toNat + 1)) n by omega]; exact hfs2)
      · refine rr_aload_n pf_277_39 rfl ?_
        refine rr_getR pf_277_40 po_277 pg_9_137 rfl (ws_228 hW) (by decide) (wr_228_48 q4.1) ?_
        refine rr_iload_n pf_277_43 rfl ?_
        refine vr_iald (j := k.toNat) q4 pf_277_44 (ws_256 hW) (by omega) (by omega) (by decide) (fun x34 hx34 rx34 => ?_)
        rw [eM3, up_s] at hx34
        refine rr_bipush pf_277_45 (by decide) ?_
        refine rr_icmp_lt 166 pf_277_47 (by decide) rx34 (by unfold rg; omega) (fun c35 => ?_) (fun c35 => ?_)
        · have hM1 : ∀ j, j < 7 → M3 256 j = (fup t k.toNat (t k.toNat + 1)) j := fun j hj => by rw [eM3, ask_up]; unfold fup; split; omega; exact hM j hj
          refine rr_aload_n pf_277_166 rfl ?_
          refine rr_iload_n pf_277_167 rfl ?_
          obtain ⟨M36, kq37, hcM36⟩ := ct_R_isNew (xs := xs) (L := L) (d := d) (k := (k).toNat) (by omega) hW q4.1 q4.2.1 (by omega)
          rw [show (((k).toNat : Nat) : Int) = k by omega] at hcM36
          obtain rfl := qk_nil kq37
          refine rr_cV1 pf_277_168 po_277 pc_9_534 (ws_228 hW) po_278 (by decide) rfl hcM36 ?_
          refine rr_ifb_eq 20 pf_277_171 (by decide) (fun c39 => ?_) (fun c39 => ?_)
          · have hnew : ¬ newB (fup t k.toNat (t k.toNat + 1)) k.toNat k.toNat = true := by rw [← newB_congr (hM1 k.toNat (by omega)) k.toNat (fun j hj => hM1 j (by omega))]; exact c39
            exact ih _ (by omega) (fup t k.toNat (t k.toNat + 1)) b f2 mo k _ _ _ M3 rfl q4 (by omega) (by omega) (by intro l hl; rw [fup_n (by omega)]; exact ht l (by omega)) (by intro _; rw [fup_s]; omega) (hM1) (by intro j hj; rw [eM3, ask_ne (by decide)]; exact hb j hj) (by rw [if_neg (by omega), if_neg (by omega), if_neg hnew] at hfs2; exact hfs2)
          · have hnew : newB (fup t k.toNat (t k.toNat + 1)) k.toNat k.toNat = true := by rw [← newB_congr (hM1 k.toNat (by omega)) k.toNat (fun j hj => hM1 j (by omega))]; exact c39
            refine rr_iinc pf_277_174 rfl (fun y => [.ref 228, .int (iI (((n : Nat) : Int))), .int (iI (mo)), .int (iI (y)), v4, v5, v6]) (fun _ => rfl) (fun y40 hy40 => ?_)
            refine rr_aload_n pf_277_177 rfl ?_
            refine rr_getR pf_277_178 po_277 pg_9_137 rfl (ws_228 hW) (by decide) (wr_228_48 q4.1) ?_
            refine rr_iload_n pf_277_181 rfl ?_
            refine rr_iconst pf_277_182 ?_
            refine vr_iast (j := k.toNat + 1) hW q4 pf_277_183 (ws_256 hW) (by omega) (by omega) (by decide) (by unfold rg; omega) (by decide) (fun M41 eM41 q42 => ?_)
            refine rr_goto 20 pf_277_184 (by decide) ?_
            exact ih _ (by omega) (fup (fup t k.toNat (t k.toNat + 1)) (k.toNat + 1) (-1)) b f2 mo y40 _ _ _ M41 rfl q42 (by omega) (by omega) (by
                              intro l hl; rw [fup_n (by omega)]; by_cases hz : l = k.toNat
                              · rw [hz, fup_s]; omega
                              · rw [fup_n hz]; exact ht l (by omega)) (by intro _; rw [show (y40).toNat = k.toNat + 1 by omega, fup_s]; omega) (by
                              intro j hj; rw [eM41, ask_up]; unfold fup; by_cases hz : j = k.toNat + 1
                              · rw [if_pos hz, if_pos hz]
                              · rw [if_neg hz, if_neg hz, hM1 j hj]; rfl) (by intro j hj; rw [eM41, ask_ne (by decide), eM3, ask_ne (by decide)]; exact hb j hj) (by rw [if_neg (by omega), if_neg (by omega), if_pos hnew] at hfs2; rw [show (y40 : Int) = k + 1 by omega]; exact hfs2)
        · refine rr_iconst pf_277_50 ?_
          refine rr_istore pf_277_51 (fun y => [.ref 228, .int (iI (((n : Nat) : Int))), .int (iI (mo)), .int (iI (k)), .int (iI (y)), v5, v6]) (Nat.le_of_ble_eq_true rfl) (fun _ => rfl) (fun y43 hy43 => ?_)
          refine rr_iconst pf_277_53 ?_
          refine rr_istore pf_277_54 (fun y => [.ref 228, .int (iI (((n : Nat) : Int))), .int (iI (mo)), .int (iI (k)), .int (iI (y43)), .int (iI (y)), v6]) (Nat.le_of_ble_eq_true rfl) (fun _ => rfl) (fun y44 hy44 => ?_)
          obtain ⟨nz45, hnz45, rfl⟩ : ∃ zz : Nat, zz = 0 ∧ y44 = ((zz : Nat) : Int) := ⟨0, rfl, by omega⟩
          refine lp_R_findSeated_56 (xs := xs) (L := L) (d := d) (by omega) hW hρ hn hn6 hD hds (by omega) (T := (fup t k.toNat (t k.toNat + 1))) (fun hz j hj => by rw [fup_n (by omega)]; exact ht j (by omega)) (Mb := M) (fun v_46 l_47 v50 M48 q49 xv_M48 xvb_M48 xMT_M48 x57_M48 => ?_) _ y43 nz45 _ M3 rfl q4 (by omega) (by
                          intro j hj; rw [eM3, ask_up]; unfold fup; split
                          · omega
                          · exact hM j hj) (by refine ⟨fun _ => ?_, by omega, by omega, fun _ => by omega⟩; rw [show nz45 = 0 by omega]; exact hy43) (by rw [eM3, ask_ne (by decide)])
          have hxv := xv_M48
          have hxvb := xvb_M48
          refine rr_iload_n pf_277_96 rfl ?_
          refine rr_iload_n pf_277_97 rfl ?_
          refine rr_icmp_ne 111 pf_277_98 (by decide) (by unfold rg; omega) (by unfold rg; omega) (fun c51 => ?_) (fun c51 => ?_)
          · refine rr_iconst pf_277_111 ?_
            refine rr_istore pf_277_112 (fun y => [.ref 228, .int (iI (((n : Nat) : Int))), .int (iI (mo)), .int (iI (k)), .int (iI (v_46)), .int (iI (y)), v50]) (Nat.le_of_ble_eq_true rfl) (fun _ => rfl) (fun y52 hy52 => ?_)
            refine rr_iconst pf_277_114 ?_
            refine rr_istore pf_277_115 (fun y => [.ref 228, .int (iI (((n : Nat) : Int))), .int (iI (mo)), .int (iI (k)), .int (iI (v_46)), .int (iI (y52)), .int (iI (y))]) (Nat.le_of_ble_eq_true rfl) (fun _ => rfl) (fun y53 hy53 => ?_)
            obtain ⟨nz54, hnz54, rfl⟩ : ∃ zz : Nat, zz = 0 ∧ y53 = ((zz : Nat) : Int) := ⟨0, rfl, by omega⟩
            refine lp_R_findSeated_117 (xs := xs) (L := L) (d := d) (by omega) hW hρ hn hn6 hD hds (by omega) (T := (fup t k.toNat (t k.toNat + 1))) (b := b) (fun l_55  M56 q57 xMT_M56 xc_M56 => ?_) _ nz54 M48 rfl q49 (by omega) (xMT_M48) (by exact ⟨fun _ => by omega, fun j hj => by rw [if_neg (by omega), x57_M48]; exact hb j hj⟩)
            refine rr_iload pf_277_148 rfl ?_
            refine rr_if_eq 158 pf_277_150 (by decide) (by unfold rg; omega) (fun c58 => ?_) (fun c58 => ?_)
            · refine rr_iload_n pf_277_158 rfl ?_
              refine rr_istore_n pf_277_159 (fun y => [.ref 228, .int (iI (((n : Nat) : Int))), .int (iI (y)), .int (iI (k)), .int (iI (v_46)), .int (iI (y52)), .int (iI (((l_55 : Nat) : Int)))]) (Nat.le_of_ble_eq_true rfl) (fun _ => rfl) (fun y59 hy59 => ?_)
              refine rr_iinc pf_277_160 rfl (fun y => [.ref 228, .int (iI (((n : Nat) : Int))), .int (iI (y59)), .int (iI (y)), .int (iI (v_46)), .int (iI (y52)), .int (iI (((l_55 : Nat) : Int)))]) (fun _ => rfl) (fun y60 hy60 => ?_)
              refine rr_goto 20 pf_277_163 (by decide) ?_
              exact ih _ (by omega) (fup t k.toNat (t k.toNat + 1)) b f2 y59 y60 _ _ _ M56 rfl q57 (by omega) (by omega) (by intro l hl; rw [fup_n (by omega)]; exact ht l (by omega)) (by intro hz; rw [fup_n (by omega)]; have := ht (y60).toNat (by omega); omega) (xMT_M56) (by intro j hj; rw [xc_M56 j hj, if_neg (by omega)]) (by rw [if_neg (by omega), if_pos (by omega)] at hfs2; rw [show (y60 : Int) = k - 1 by omega, show (y59 : Int) = mo by omega]; exact hfs2)
            · exfalso; omega
          · exfalso; omega
theorem ct_R_findSeated {xs : Nat → Int} {L d : Nat} {sh : List (Nat × Nat)} {M0 : Nat → Nat → Int} (hd : 2 ≤ d) (hW : px_W0 <+: sh) (hF : px_Fx M0) (hG : px_RG sh M0)  (hρ : sp_ok (rr_ M0)) {n : Nat} (hn : rr_ M0 1 = ((n : Nat) : Int)) (hn6 : n ≤ 6) {D : Nat → Nat → Int} (hD : ∀ l s, -9 ≤ D l s ∧ D l s ≤ 9) (hds : ∀ l s, l < n → s < 8 → M0 255 (s + 8 * l) = D l s) {f0 : Nat} {res : Int × (Nat → Int)} (hfs0 : fsS n D f0 0 (fup (M0 256) 0 (-1)) (-100000000) (M0 257) = some res) : ∃ v M, (px_qk sh [256, 257] M0 M ∧ (v = res.1) ∧ (∀ j, j < 6 → M 257 j = res.2 j) ∧ (-100000000 ≤ v ∧ v ≤ 100)) ∧ px_Cl xs L d 277 [.ref 228] (sh, M0) (some (.int (iI v))) (sh, M) := by
  obtain ⟨d, rfl⟩ : ∃ e, d = e + 1 := ⟨d - 1, by omega⟩
  have q0 : px_qk sh [256, 257] M0 M0 := ⟨hF, hG, eo_rf⟩
  refine vc_i (Nat.le_of_ble_eq_true rfl) ?_
  show px_R xs L d 277 (0, [.ref 228, px_jk, px_jk, px_jk, px_jk, px_jk, px_jk], [], (sh, M0)) (fun r h' => ∃ v M', r = some (.int (iI v)) ∧ h' = (sh, M') ∧ px_qk sh [256, 257] M0 M' ∧ v = res.1 ∧ (∀ j, j < 6 → M' 257 j = res.2 j) ∧ (-100000000 ≤ v ∧ v ≤ 100))
  refine rr_aload_n pf_277_0 rfl ?_
  refine rr_getR pf_277_1 po_277 pg_9_13 rfl (ws_228 hW) (by decide) (wr_228_3 q0.1) ?_
  refine rr_iconst pf_277_4 ?_
  refine vr_iald (j := 1) q0 pf_277_5 (ws_230 hW) (by omega) (by omega) (by decide) (fun x1 hx1 rx1 => ?_)
  rw [rr_at (M := M0) (i := 1) (by omega), hn] at hx1
  refine rr_istore_n pf_277_6 (fun y => [.ref 228, .int (iI (y)), px_jk, px_jk, px_jk, px_jk, px_jk]) (Nat.le_of_ble_eq_true rfl) (fun _ => rfl) (fun y2 hy2 => ?_)
  have ry2 : rg y2 := hy2 ▸ rx1
  refine rr_ldc_w pf_277_7 po_277 pk_9_533 ?_
  refine rr_istore_n pf_277_10 (fun y => [.ref 228, .int (iI (y2)), .int (iI (y)), px_jk, px_jk, px_jk, px_jk]) (Nat.le_of_ble_eq_true rfl) (fun _ => rfl) (fun y3 hy3 => ?_)
  refine rr_iconst pf_277_11 ?_
  refine rr_istore_n pf_277_12 (fun y => [.ref 228, .int (iI (y2)), .int (iI (y3)), .int (iI (y)), px_jk, px_jk, px_jk]) (Nat.le_of_ble_eq_true rfl) (fun _ => rfl) (fun y4 hy4 => ?_)
  refine rr_aload_n pf_277_13 rfl ?_
  refine rr_getR pf_277_14 po_277 pg_9_137 rfl (ws_228 hW) (by decide) (wr_228_48 q0.1) ?_
  refine rr_iconst pf_277_17 ?_
  refine rr_iconst pf_277_18 ?_
  refine vr_iast (j := 0) hW q0 pf_277_19 (ws_256 hW) (by omega) (by omega) (by decide) (by unfold rg; omega) (by decide) (fun M5 eM5 q6 => ?_)
  have ht0 := fup_s (M0 256) 0 (-1)
  have hMi : ∀ j, j < 7 → M5 256 j = fup (M0 256) 0 (-1) j := fun j hj => by rw [eM5, ask_up]; rfl
  obtain rfl : y2 = ((n : Nat) : Int) := by omega
  refine lp_R_findSeated_20 (xs := xs) (L := L) (d := d) (by omega) hW hρ hn hn6 hD hds (fun t_7 b_8 f_9 mo_10 k_11 v14 v15 v16 M12 q13 xm_M12 xb_M12 xmb_M12 => ?_) _ (fup (M0 256) 0 (-1)) (M0 257) f0 y3 y4 _ _ _ M5 rfl q6 (by omega) (by omega) (by intro l hl; exfalso; omega) (by intro _; rw [show (y4).toNat = 0 by omega, ht0]; omega) (hMi) (by intro j hj; rw [eM5, ask_ne (by decide)]) (by rw [show (y4 : Int) = 0 by omega, show (y3 : Int) = -100000000 by omega]; exact hfs0)
  refine rr_iload_n pf_277_187 rfl ?_
  refine rr_iret pf_277_188 pt_277 ⟨_, M12, rfl, rfl, q13, (xm_M12), (xb_M12), (xmb_M12)⟩
theorem does_b (lw : List sp_C) (ρ : Nat → Int) (l s : Nat) : -9 ≤ sp_does lw ρ l s ∧ sp_does lw ρ l s ≤ 9 := sp_doesF_b lw ρ l (sp_light lw ρ s)
theorem lp_R_seated1_39 {xs : Nat → Int} {L d : Nat} {sh : List (Nat × Nat)} (hd : 11 ≤ d) (hW : px_W0 <+: sh) {M0 : Nat → Nat → Int}  (hρ : sp_ok (rr_ M0)) {lw : List sp_C} (hlw : px_lwR M0 lw) (hord : M0 228 20 = 0) {n : Nat} (hn : rr_ M0 1 = ((n : Nat) : Int)) (hn6 : n ≤ 6) {u : Int} {l : Nat} (hl : l < n) {Q : Option Value → px_H → Prop} (kx : ∀ (s : Nat) (M : Nat → Nat → Int), px_qk sh [228, 246, 248, 255, 256, 257] M0 M → (rz [] M0 M) → (M 256 = M0 256 ∧ M 257 = M0 257) → (∀ j, j < 8 + 8 * l → M 255 j = sp_does lw (rr_ M0) (j / 8) (j % 8)) → px_R xs L d 276 (68, [.ref 228, .int (iI (u)), .int (iI (((l : Nat) : Int))), .int (iI (((s : Nat) : Int)))], [], (sh, M)) Q)  : ∀ (mz : Nat) (s : Nat) (M : Nat → Nat → Int), 8 - s = mz → px_qk sh [228, 246, 248, 255, 256, 257] M0 M → (rz [] M0 M) → (s ≤ 8) → (M 256 = M0 256 ∧ M 257 = M0 257) → (∀ j, j < s + 8 * l → M 255 j = sp_does lw (rr_ M0) (j / 8) (j % 8)) → px_R xs L d 276 (39, [.ref 228, .int (iI (u)), .int (iI (((l : Nat) : Int))), .int (iI (((s : Nat) : Int)))], [], (sh, M)) Q := by
  intro mz
  induction mz using Nat.strongRecOn with
  | _ mz ih =>
    intro s M hm hq hrq hs h67 hv
    refine rr_iload_n pf_276_39 rfl ?_
    refine rr_bipush pf_276_40 (by decide) ?_
    refine rr_icmp_ge 68 pf_276_42 (by decide) (by unfold rg; omega) (by unfold rg; omega) (fun c1 => ?_) (fun c1 => ?_)
    · exact kx s M hq (hrq) (h67) (by intro j hj; exact hv j (by omega))
    · refine rr_aload_n pf_276_45 rfl ?_
      refine rr_getR pf_276_46 po_276 pg_9_134 rfl (ws_228 hW) (by decide) (wr_228_47 hq.1) ?_
      refine rr_bipush pf_276_49 (by decide) ?_
      refine rr_iload_n pf_276_51 rfl ?_
      refine rr_imul pf_276_52 ?_
      refine rr_iload_n pf_276_53 rfl ?_
      refine rr_iadd pf_276_54 ?_
      refine rr_aload_n pf_276_55 rfl ?_
      refine rr_iload_n pf_276_56 rfl ?_
      refine rr_iload_n pf_276_57 rfl ?_
      obtain ⟨r4, M2, ⟨kq3, pv_M2, pf_M2⟩, hcM2⟩ := ct_R_doesOf (xs := xs) (L := L) (d := d) (l := l) (s := s) (lw := lw) (by omega) hW hq.1 hq.2.1 (by rw [rr_q hq (by decide)]; exact hρ) (lwR_q hq (by decide) hlw) ((hrq 20 (by decide) (by decide)).trans hord) (by omega) (by omega)
      have q3 := qk_trm hq kq3 (by decide)
      rw [rr_q hq (by decide)] at pv_M2
      have rq5 := rz_rq hrq pf_M2
      refine rr_cV2 pf_276_58 po_276 pc_9_251 (ws_228 hW) po_207 (by decide) rfl hcM2 ?_
      have hdb := does_b lw (rr_ M0) l s
      refine vr_iast (j := 8 * l + s) hW q3 pf_276_61 (ws_255 hW) (by omega) (by omega) (by decide) (by unfold rg; omega) (by decide) (fun M6 eM6 q7 => ?_)
      have rq8 := rz_ne rq5 eM6 (by decide)
      refine rr_iinc pf_276_62 rfl (fun y => [.ref 228, .int (iI (u)), .int (iI (((l : Nat) : Int))), .int (iI (y))]) (fun _ => rfl) (fun y9 hy9 => ?_)
      refine rr_goto 39 pf_276_65 (by decide) ?_
      obtain ⟨nz10, hnz10, rfl⟩ : ∃ zz : Nat, zz = 1 + s ∧ y9 = ((zz : Nat) : Int) := ⟨1 + s, rfl, by omega⟩
      exact ih _ (by omega) nz10 M6 rfl q7 (rq8) (by omega) (by exact ⟨by rw [eM6, ask_ne (by decide), kq3.2.2 256 (by decide)]; exact h67.1, by rw [eM6, ask_ne (by decide), kq3.2.2 257 (by decide)]; exact h67.2⟩) (by
                  intro j hj; rw [eM6, ask_up]; by_cases hc : j = s + 8 * l
                  · rw [if_pos (by omega), hc, show (s + 8 * l) / 8 = l by omega, show (s + 8 * l) % 8 = s by omega]; exact pv_M2
                  · rw [if_neg (by omega), kq3.2.2 255 (by decide)]; exact hv j (by omega))
theorem lp_R_seated1_27 {xs : Nat → Int} {L d : Nat} {sh : List (Nat × Nat)} (hd : 11 ≤ d) (hW : px_W0 <+: sh) {M0 : Nat → Nat → Int}  (hρ : sp_ok (rr_ M0)) {lw : List sp_C} (hlw : px_lwR M0 lw) (hord : M0 228 20 = 0) {n : Nat} (hn : rr_ M0 1 = ((n : Nat) : Int)) (hn6 : n ≤ 6) {u : Int}  {Q : Option Value → px_H → Prop} (kx : ∀ (l : Nat) (v3 : Value) (M : Nat → Nat → Int), px_qk sh [228, 246, 248, 255, 256, 257] M0 M → (rz [] M0 M) → (M 256 = M0 256 ∧ M 257 = M0 257) → (∀ j, j < 8 * n → M 255 j = sp_does lw (rr_ M0) (j / 8) (j % 8)) → px_R xs L d 276 (74, [.ref 228, .int (iI (u)), .int (iI (((l : Nat) : Int))), v3], [], (sh, M)) Q)  : ∀ (mz : Nat) (l : Nat) (v3 : Value) (M : Nat → Nat → Int), 7 - l = mz → px_qk sh [228, 246, 248, 255, 256, 257] M0 M → (rz [] M0 M) → (l ≤ n) → (M 256 = M0 256 ∧ M 257 = M0 257) → (∀ j, j < 8 * l → M 255 j = sp_does lw (rr_ M0) (j / 8) (j % 8)) → px_R xs L d 276 (27, [.ref 228, .int (iI (u)), .int (iI (((l : Nat) : Int))), v3], [], (sh, M)) Q := by
  intro mz
  induction mz using Nat.strongRecOn with
  | _ mz ih =>
    intro l v3 M hm hq hrq hl h67 hv
    refine rr_iload_n pf_276_27 rfl ?_
    refine rr_aload_n pf_276_28 rfl ?_
    refine rr_getR pf_276_29 po_276 pg_9_13 rfl (ws_228 hW) (by decide) (wr_228_3 hq.1) ?_
    refine rr_iconst pf_276_32 ?_
    refine vr_iald (j := 1) hq pf_276_33 (ws_230 hW) (by omega) (by omega) (by decide) (fun x1 hx1 rx1 => ?_)
    rw [hq.2.2 230 (by decide)] at hx1
    rw [rr_at (M := M0) (i := 1) (by omega), hn] at hx1
    refine rr_icmp_ge 74 pf_276_34 (by decide) (by unfold rg; omega) rx1 (fun c2 => ?_) (fun c2 => ?_)
    · exact kx l _ M hq (hrq) (h67) (by intro j hj; exact hv j (by omega))
    · refine rr_iconst pf_276_37 ?_
      refine rr_istore_n pf_276_38 (fun y => [.ref 228, .int (iI (u)), .int (iI (((l : Nat) : Int))), .int (iI (y))]) (Nat.le_of_ble_eq_true rfl) (fun _ => rfl) (fun y3 hy3 => ?_)
      obtain ⟨nz4, hnz4, rfl⟩ : ∃ zz : Nat, zz = 0 ∧ y3 = ((zz : Nat) : Int) := ⟨0, rfl, by omega⟩
      refine lp_R_seated1_39 (xs := xs) (L := L) (d := d) (by omega) hW hρ hlw hord hn hn6 (by omega) (fun s_5  M6 q7 xrq_M6 x67_M6 xi_M6 => ?_) _ nz4 M rfl hq (hrq) (by omega) (h67) (by intro j hj; exact hv j (by omega))
      refine rr_iinc pf_276_68 rfl (fun y => [.ref 228, .int (iI (u)), .int (iI (y)), .int (iI (((s_5 : Nat) : Int)))]) (fun _ => rfl) (fun y8 hy8 => ?_)
      refine rr_goto 27 pf_276_71 (by decide) ?_
      obtain ⟨nz9, hnz9, rfl⟩ : ∃ zz : Nat, zz = 1 + l ∧ y8 = ((zz : Nat) : Int) := ⟨1 + l, rfl, by omega⟩
      exact ih _ (by omega) nz9 _ M6 rfl q7 (xrq_M6) (by omega) (x67_M6) (by intro j hj; exact xi_M6 j (by omega))
theorem ct_R_seated1 {xs : Nat → Int} {L d : Nat} {sh : List (Nat × Nat)} {M0 : Nat → Nat → Int} (hd : 12 ≤ d) (hW : px_W0 <+: sh) (hF : px_Fx M0) (hG : px_RG sh M0)  (hρ : sp_ok (rr_ M0)) {lw : List sp_C} (hlw : px_lwR M0 lw) (hord : M0 228 20 = 0) {n : Nat} (hn : rr_ M0 1 = ((n : Nat) : Int)) (hn6 : n ≤ 6) {u : Int} (hu : 0 ≤ u ∧ u ≤ n) {f0 : Nat} {res : Int × (Nat → Int)} (hfs0 : fsS n (fun l s => sp_does lw (rr_ M0) l s) f0 0 (fup (M0 256) 0 (-1)) (-100000000) (M0 257) = some res) : ∃ v M, (px_qk sh [228, 246, 248, 255, 256, 257] M0 M ∧ (v = if u = 0 then res.1 else res.2 (u - 1).toNat) ∧ (rz [] M0 M)) ∧ px_Cl xs L d 276 [.ref 228, .int (iI (u))] (sh, M0) (some (.int (iI v))) (sh, M) := by
  obtain ⟨d, rfl⟩ : ∃ e, d = e + 1 := ⟨d - 1, by omega⟩
  have q0 : px_qk sh [228, 246, 248, 255, 256, 257] M0 M0 := ⟨hF, hG, eo_rf⟩
  refine vc_i (Nat.le_of_ble_eq_true rfl) ?_
  show px_R xs L d 276 (0, [.ref 228, .int (iI (u)), px_jk, px_jk], [], (sh, M0)) (fun r h' => ∃ v M', r = some (.int (iI v)) ∧ h' = (sh, M') ∧ px_qk sh [228, 246, 248, 255, 256, 257] M0 M' ∧ (v = if u = 0 then res.1 else res.2 (u - 1).toNat) ∧ rz [] M0 M')
  refine rr_aload_n pf_276_0 rfl ?_
  refine rr_iconst pf_276_1 ?_
  refine vr_putI hW q0 pf_276_2 po_276 pg_9_177 (Or.inl rfl) rfl (ws_228 hW) (by decide) (by unfold rg; omega) (by decide) (fun M1 eM1 q2 => ?_)
  have rq3 := rz_up (rz_rf [] M0) eM1 (by decide)
  have e4 : M1 256 = M0 256 := (show M1 256 = M0 256 by rw [eM1, ask_ne (by decide)]).trans (rfl : M0 256 = M0 256)
  have e5 : M1 257 = M0 257 := (show M1 257 = M0 257 by rw [eM1, ask_ne (by decide)]).trans (rfl : M0 257 = M0 257)
  refine rr_iload_n pf_276_5 rfl ?_
  refine rr_i2l pf_276_6 (by unfold rg; omega) ?_
  refine rr_lconst (w := 0) pf_276_7 rfl ?_
  refine rr_aload_n pf_276_8 rfl ?_
  refine rr_getR pf_276_9 po_276 pg_9_13 rfl (ws_228 hW) (by decide) (wr_228_3 q2.1) ?_
  refine rr_iconst pf_276_12 ?_
  refine vr_iald (j := 1) q2 pf_276_13 (ws_230 hW) (by omega) (by omega) (by decide) (fun x6 hx6 rx6 => ?_)
  rw [q2.2.2 230 (by decide)] at hx6
  rw [rr_at (M := M0) (i := 1) (by omega), hn] at hx6
  refine rr_i2l pf_276_14 rx6 ?_
  refine rr_cS3 pf_276_15 po_276 pc_9_197 (by decide) rfl (ct_R_in (by omega) (by unfold rl; omega) (by unfold rl; omega) (rl_rg rx6)) ?_
  refine rr_ifb_ne 25 pf_276_18 (by decide) (fun c7 => ?_) (fun c7 => ?_)
  · refine rr_iconst pf_276_25 ?_
    refine rr_istore_n pf_276_26 (fun y => [.ref 228, .int (iI (u)), .int (iI (y)), px_jk]) (Nat.le_of_ble_eq_true rfl) (fun _ => rfl) (fun y8 hy8 => ?_)
    obtain ⟨nz9, hnz9, rfl⟩ : ∃ zz : Nat, zz = 0 ∧ y8 = ((zz : Nat) : Int) := ⟨0, rfl, by omega⟩
    refine lp_R_seated1_27 (xs := xs) (L := L) (d := d) (by omega) hW hρ hlw hord hn hn6 (fun l_10 v13 M11 q12 xrq_M11 x67_M11 xv_M11 => ?_) _ nz9 _ M1 rfl q2 (rq3) (by omega) (⟨e4, e5⟩) (by intro j hj; exfalso; omega)
    refine rr_aload_n pf_276_74 rfl ?_
    obtain ⟨r16, M14, ⟨kq15, pv_M14, pb_M14, pm_M14⟩, hcM14⟩ := ct_R_findSeated (xs := xs) (L := L) (d := d) (n := n) (D := (fun l s => sp_does lw (rr_ M0) l s)) (f0 := f0) (res := res) (by omega) hW q12.1 q12.2.1 (by rw [rr_q q12 (by decide)]; exact hρ) (by rw [rr_q q12 (by decide)]; exact hn) hn6 (fun l s => does_b lw (rr_ M0) l s) (fun l s hl hs => by rw [xv_M11 (s + 8 * l) (by omega), show (s + 8 * l) / 8 = l by omega, show (s + 8 * l) % 8 = s by omega]) (by rw [x67_M11.1, x67_M11.2]; exact hfs0)
    have q15 := qk_trm q12 kq15 (by decide)
    have rq17 := rz_q xrq_M11 kq15 (by decide)
    refine rr_cV0 pf_276_75 po_276 pc_9_537 (ws_228 hW) po_277 (by decide) rfl hcM14 ?_
    have hpm := pm_M14
    refine rr_istore_n pf_276_78 (fun y => [.ref 228, .int (iI (u)), .int (iI (y)), v13]) (Nat.le_of_ble_eq_true rfl) (fun _ => rfl) (fun y18 hy18 => ?_)
    refine rr_iload_n pf_276_79 rfl ?_
    refine rr_if_ne 87 pf_276_80 (by decide) (by unfold rg; omega) (fun c19 => ?_) (fun c19 => ?_)
    · refine rr_aload_n pf_276_87 rfl ?_
      refine rr_getR pf_276_88 po_276 pg_9_140 rfl (ws_228 hW) (by decide) (wr_228_49 q15.1) ?_
      refine rr_iload_n pf_276_91 rfl ?_
      refine rr_iconst pf_276_92 ?_
      refine rr_isub pf_276_93 ?_
      refine vr_iald (j := (u - 1).toNat) q15 pf_276_94 (ws_257 hW) (by omega) (by omega) (by decide) (fun x20 hx20 rx20 => ?_)
      refine rr_iret pf_276_95 pt_276 ⟨_, M14, rfl, rfl, q15, (by rw [if_neg (by omega), ← pb_M14 (u - 1).toNat (by omega)]; omega), (rq17)⟩
    · refine rr_iload_n pf_276_83 rfl ?_
      refine rr_goto 95 pf_276_84 (by decide) ?_
      refine rr_iret pf_276_95 pt_276 ⟨_, M14, rfl, rfl, q15, (by rw [if_pos (by omega)]; omega), (rq17)⟩
  · exfalso; omega
theorem ct_R_seated0 {xs : Nat → Int} {L d : Nat} {sh : List (Nat × Nat)} {M0 : Nat → Nat → Int} (hd : 3 ≤ d) (hW : px_W0 <+: sh) (hF : px_Fx M0) (hG : px_RG sh M0)  {u : Int} (hu0 : rg u) (hx : ¬ (0 ≤ u ∧ u ≤ rr_ M0 1)) : ∃ v M, (px_qk sh [228] M0 M ∧ (v = -1000) ∧ (rz [] M0 M)) ∧ px_Cl xs L d 276 [.ref 228, .int (iI (u))] (sh, M0) (some (.int (iI v))) (sh, M) := by
  obtain ⟨d, rfl⟩ : ∃ e, d = e + 1 := ⟨d - 1, by omega⟩
  have q0 : px_qk sh [228] M0 M0 := ⟨hF, hG, eo_rf⟩
  refine vc_i (Nat.le_of_ble_eq_true rfl) ?_
  show px_R xs L d 276 (0, [.ref 228, .int (iI (u)), px_jk, px_jk], [], (sh, M0)) (fun r h' => ∃ v M', r = some (.int (iI v)) ∧ h' = (sh, M') ∧ px_qk sh [228] M0 M' ∧ v = -1000 ∧ rz [] M0 M')
  refine rr_aload_n pf_276_0 rfl ?_
  refine rr_iconst pf_276_1 ?_
  refine vr_putI hW q0 pf_276_2 po_276 pg_9_177 (Or.inl rfl) rfl (ws_228 hW) (by decide) (by unfold rg; omega) (by decide) (fun M1 eM1 q2 => ?_)
  have rq3 := rz_up (rz_rf [] M0) eM1 (by decide)
  refine rr_iload_n pf_276_5 rfl ?_
  refine rr_i2l pf_276_6 hu0 ?_
  refine rr_lconst (w := 0) pf_276_7 rfl ?_
  refine rr_aload_n pf_276_8 rfl ?_
  refine rr_getR pf_276_9 po_276 pg_9_13 rfl (ws_228 hW) (by decide) (wr_228_3 q2.1) ?_
  refine rr_iconst pf_276_12 ?_
  refine vr_iald (j := 1) q2 pf_276_13 (ws_230 hW) (by omega) (by omega) (by decide) (fun x4 hx4 rx4 => ?_)
  rw [q2.2.2 230 (by decide)] at hx4
  rw [rr_at (M := M0) (i := 1) (by omega)] at hx4
  refine rr_i2l pf_276_14 rx4 ?_
  refine rr_cS3 pf_276_15 po_276 pc_9_197 (by decide) rfl (ct_R_in (by omega) (rl_rg hu0) (by unfold rl; omega) (rl_rg rx4)) ?_
  refine rr_ifb_ne 25 pf_276_18 (by decide) (fun c5 => ?_) (fun c5 => ?_)
  · exfalso; omega
  · refine rr_sipush pf_276_21 (by decide) ?_
    refine rr_iret pf_276_24 pt_276 ⟨_, M1, rfl, rfl, q2, (by rfl), (rq3)⟩

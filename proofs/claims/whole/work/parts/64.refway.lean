/-! ways -/
def stepB (p q g : Nat) : Bool := decide (aw p q = 1 ∧ aw q g < aw p g)
def nrC (p g : Nat) : Nat → Nat
  | 0 => 0
  | q + 1 => nrC p g q + (if stepB p q g = true then 1 else 0)
def nrI (p g k : Nat) : Nat → Int
  | 0 => -1
  | q + 1 => if stepB p q g = true ∧ nrC p g q = k then ((q : Nat) : Int) else nrI p g k q
def lsF (f : Nat → Int) (p g : Nat) : Nat → Int
  | 0 => 1000000
  | q + 1 => if stepB p q g = true then min (lsF f p g q) (f q) else lsF f p g q
/-- the lowest step on with f as told -/
def fnW (f : Nat → Int) (l : Int) (p g : Nat) : Nat → Int
  | 0 => -1
  | q + 1 => if fnW f l p g q = -1 then (if stepB p q g = true ∧ f q = l then ((q : Nat) : Int) else -1) else fnW f l p g q
theorem nrC_2 : ∀ p, p < 16 → ∀ g, g < 16 → p ≠ g → 1 ≤ nrC p g 16 ∧ nrC p g 16 ≤ 2 := by decide +kernel
theorem nrC_le {p g : Nat} : ∀ m j, nrC p g m ≤ nrC p g (m + j) := by
  intro m j
  induction j with
  | zero => exact Nat.le_refl _
  | succ j ih => rw [← Nat.add_assoc, nrC]; omega
theorem nr_all {p g : Nat} (f : Nat → Int) (l : Int) : ∀ m, (nrC p g m = 0 → lsF f p g m = 1000000 ∧ nrI p g 0 m = -1 ∧ nrI p g 1 m = -1 ∧ fnW f l p g m = -1)
    ∧ (nrC p g m = 1 → ∃ a : Nat, a < m ∧ stepB p a g = true ∧ nrI p g 0 m = ((a : Nat) : Int) ∧ nrI p g 1 m = -1 ∧ lsF f p g m = min 1000000 (f a) ∧ fnW f l p g m = (if f a = l then ((a : Nat) : Int) else -1))
    ∧ (nrC p g m = 2 → ∃ a b : Nat, a < m ∧ b < m ∧ stepB p a g = true ∧ stepB p b g = true ∧ nrI p g 0 m = ((a : Nat) : Int) ∧ nrI p g 1 m = ((b : Nat) : Int) ∧ lsF f p g m = min (min 1000000 (f a)) (f b) ∧ fnW f l p g m = (if f a = l then ((a : Nat) : Int) else if f b = l then ((b : Nat) : Int) else -1)) := by
  intro m
  induction m with
  | zero => exact ⟨fun _ => ⟨rfl, rfl, rfl, rfl⟩, fun h => by simp [nrC] at h, fun h => by simp [nrC] at h⟩
  | succ m ih =>
    obtain ⟨i0, i1, i2⟩ := ih
    simp only [nrC, nrI, lsF, fnW]
    by_cases hs : stepB p m g = true
    · simp only [hs, if_true, true_and]
      refine ⟨fun h => by omega, fun h => ?_, fun h => ?_⟩
      · have h0 : nrC p g m = 0 := by omega
        obtain ⟨a, b, c, e⟩ := i0 h0
        refine ⟨m, by omega, hs, by rw [if_pos h0], by rw [if_neg (by omega)]; exact c, by rw [a], by rw [e, if_pos rfl]⟩
      · have h1 : nrC p g m = 1 := by omega
        obtain ⟨a, ha, hsa, b, c, e, w⟩ := i1 h1
        refine ⟨a, m, by omega, by omega, hsa, hs, by rw [if_neg (by omega)]; exact b, by rw [if_pos h1], by rw [e], ?_⟩
        rw [w]
        by_cases hl : f a = l
        · rw [if_pos hl, if_neg (by omega), if_pos hl]
        · rw [if_neg hl, if_pos rfl, if_neg hl]
    · simp only [hs, if_false, false_and, Nat.add_zero, Bool.false_eq_true]
      refine ⟨fun h => ?_, fun h => ?_, fun h => ?_⟩
      · obtain ⟨a, b, c, e⟩ := i0 h
        exact ⟨a, b, c, by rw [e]; rfl⟩
      · obtain ⟨a, ha, hsa, b, c, e, w⟩ := i1 h
        refine ⟨a, by omega, hsa, b, c, e, ?_⟩
        rw [w]
        split
        · rw [if_neg (by omega)]
        · rfl
      · obtain ⟨a, b, ha, hb, hsa, hsb, c, e, k, w⟩ := i2 h
        refine ⟨a, b, by omega, by omega, hsa, hsb, c, e, k, ?_⟩
        rw [w]
        split
        · rw [if_neg (by omega)]
        · split
          · rw [if_neg (by omega)]
          · rfl
theorem lsF_congr {f f2 : Nat → Int} {p g : Nat} : ∀ m, (∀ q, q < m → stepB p q g = true → f q = f2 q) → lsF f p g m = lsF f2 p g m := by
  intro m
  induction m with
  | zero => intro _; rfl
  | succ m ih =>
    intro h
    simp only [lsF]
    rw [ih (fun q hq hs => h q (by omega) hs)]
    split
    · rename_i hs; rw [h m (by omega) hs]
    · rfl
theorem fnW_congr {f f2 : Nat → Int} {l : Int} {p g : Nat} : ∀ m, (∀ q, q < m → stepB p q g = true → f q = f2 q) → fnW f l p g m = fnW f2 l p g m := by
  intro m
  induction m with
  | zero => intro _; rfl
  | succ m ih =>
    intro h
    simp only [fnW]
    rw [ih (fun q hq hs => h q (by omega) hs)]
    by_cases hs : stepB p m g = true
    · rw [h m (by omega) hs]
    · simp only [hs, Bool.false_eq_true, false_and, if_false]
theorem step_d : ∀ p : Nat, p < 16 → ∀ q : Nat, q < 16 → ∀ g : Nat, g < 16 → stepB p q g = true → aw q g = aw p g - 1 := by decide +kernel
theorem aw_0 : ∀ p : Nat, p < 16 → ∀ g : Nat, g < 16 → (aw p g = 0 ↔ p = g) := by decide +kernel
/-- how many black ones lie ahead -/
def bA (bk : Nat → Int) (g : Nat) : Nat → Nat → Int
  | 0, _ => 0
  | d + 1, p => lsF (fun q => bA bk g d q + (if q = g then 0 else bk q)) p g 16
def wlv (bk : Nat → Int) (g p : Nat) : Int := bA bk g (aw p g).toNat p + (if p = g then 0 else bk p)
def wls (bk : Nat → Int) (g p : Nat) : Int := bA bk g (aw p g).toNat p
theorem wls_eq {bk : Nat → Int} {g p : Nat} (hp : p < 16) (hg : g < 16) (h : p ≠ g) : wls bk g p = lsF (wlv bk g) p g 16 := by
  have h0 : aw p g ≠ 0 := fun z => h ((aw_0 p hp g hg).mp z)
  have hb := aw_rg (p := p) (q := g) (by omega) (by omega)
  obtain ⟨d, hd⟩ : ∃ d, (aw p g).toNat = d + 1 := ⟨(aw p g).toNat - 1, by omega⟩
  unfold wls
  rw [hd, bA]
  refine lsF_congr 16 (fun q hq hs => ?_)
  have hs2 := step_d p hp q hq g hg hs
  unfold wlv
  rw [show (aw q g).toNat = d by omega]
theorem bA_b {bk : Nat → Int} (hb : ∀ q, 0 ≤ bk q ∧ bk q ≤ 1) {g : Nat} : ∀ d p, 0 ≤ bA bk g d p ∧ bA bk g d p ≤ 1000000 := by
  intro d
  induction d with
  | zero => intro p; simp [bA]
  | succ d ih =>
    intro p
    simp only [bA]
    have : ∀ m, 0 ≤ lsF (fun q => bA bk g d q + (if q = g then 0 else bk q)) p g m ∧ lsF (fun q => bA bk g d q + (if q = g then 0 else bk q)) p g m ≤ 1000000 := by
      intro m
      induction m with
      | zero => simp [lsF]
      | succ m ihm =>
        have h1 := ih m
        have h2 := hb m
        simp only [lsF]
        split
        · split <;> omega
        · exact ihm
    exact this 16
theorem wlv_b {bk : Nat → Int} (hb : ∀ q, 0 ≤ bk q ∧ bk q ≤ 1) {g p : Nat} : 0 ≤ wlv bk g p ∧ wlv bk g p ≤ 1000001 := by
  have h1 := bA_b hb (g := g) (aw p g).toNat p
  have h2 := hb p
  unfold wlv
  split <;> omega
theorem lsF_le {f : Nat → Int} {p g : Nat} : ∀ m, lsF f p g m ≤ 1000000 := by
  intro m
  induction m with
  | zero => simp [lsF]
  | succ m ih => simp only [lsF]; split <;> omega
/-- where the way comes to -/
def wyP (bk : Nat → Int) (g p0 : Nat) : Nat → Nat
  | 0 => p0
  | k + 1 => (fnW (wlv bk g) (wls bk g (wyP bk g p0 k)) (wyP bk g p0 k) g 16).toNat
theorem lp_R_nearer_8 {xs : Nat → Int} {L d : Nat} {sh : List (Nat × Nat)} (hd : 1 ≤ d) (hW : px_W0 <+: sh) {M0 : Nat → Nat → Int}  {p g : Nat} (hp : p < 16) (hg : g < 16) {k : Nat} (hk : k < 2)  {Q : Option Value → px_H → Prop} (kx : ∀ (c : Nat) (its : Int) (q : Nat) (M : Nat → Nat → Int), px_qk sh [] M0 M → (its = nrI p g k 16) → (-1 ≤ its ∧ its < 16) → px_R xs L d 287 (62, [.int (iI (((p : Nat) : Int))), .int (iI (((g : Nat) : Int))), .int (iI (((k : Nat) : Int))), .int (iI (((c : Nat) : Int))), .int (iI (its)), .int (iI (((q : Nat) : Int)))], [], (sh, M)) Q)  : ∀ (mz : Nat) (c : Nat) (its : Int) (q : Nat) (M : Nat → Nat → Int), 16 - q = mz → px_qk sh [] M0 M → (q ≤ 16 ∧ c ≤ q ∧ -1 ≤ its ∧ its < 16) → (c = nrC p g q) → (its = nrI p g k q) → px_R xs L d 287 (8, [.int (iI (((p : Nat) : Int))), .int (iI (((g : Nat) : Int))), .int (iI (((k : Nat) : Int))), .int (iI (((c : Nat) : Int))), .int (iI (its)), .int (iI (((q : Nat) : Int)))], [], (sh, M)) Q := by
  intro mz
  induction mz using Nat.strongRecOn with
  | _ mz ih =>
    intro c its q M hm hq hq2 hc hI
    have ha1 := aw_rg (p := (p : Int)) (q := ((q : Nat) : Int)) (by omega)
    have ha2 := aw_rg (p := ((q : Nat) : Int)) (q := (g : Int))
    have ha3 := aw_rg (p := (p : Int)) (q := (g : Int)) (by omega) (by omega)
    refine rr_iload pf_287_8 rfl ?_
    refine rr_bipush pf_287_10 (by decide) ?_
    refine rr_icmp_ge 62 pf_287_12 (by decide) (by unfold rg; omega) (by unfold rg; omega) (fun c1 => ?_) (fun c1 => ?_)
    · exact kx c its q M hq (by rw [hI, show q = 16 by omega]) (by omega)
    · have ha1 := ha1 (by omega)
      have ha2 := ha2 (by omega) (by omega)
      refine rr_iload_n pf_287_15 rfl ?_
      refine rr_iload pf_287_16 rfl ?_
      refine rr_cS2 pf_287_18 po_287 pc_9_237 (by decide) rfl (ct_R_apartOf (by omega) (by omega) (by omega)) ?_
      refine rr_iconst pf_287_21 ?_
      refine rr_icmp_ne 56 pf_287_22 (by decide) (by unfold rg; omega) (by unfold rg; omega) (fun c2 => ?_) (fun c2 => ?_)
      · have hst : ¬ stepB p q g = true := fun z => by have := of_decide_eq_true z; omega
        refine rr_iinc pf_287_56 rfl (fun y => [.int (iI (((p : Nat) : Int))), .int (iI (((g : Nat) : Int))), .int (iI (((k : Nat) : Int))), .int (iI (((c : Nat) : Int))), .int (iI (its)), .int (iI (y))]) (fun _ => rfl) (fun y3 hy3 => ?_)
        refine rr_goto 8 pf_287_59 (by decide) ?_
        obtain ⟨n4, hn4, rfl⟩ : ∃ zz : Nat, zz = 1 + q ∧ y3 = ((zz : Nat) : Int) := ⟨1 + q, rfl, by omega⟩
        exact ih _ (by omega) c its n4 M rfl hq (by omega) (by rw [show n4 = q + 1 by omega, nrC, if_neg hst]; omega) (by rw [show n4 = q + 1 by omega, nrI, if_neg (fun z => hst z.1)]; omega)
      · refine rr_iload pf_287_25 rfl ?_
        refine rr_iload_n pf_287_27 rfl ?_
        refine rr_cS2 pf_287_28 po_287 pc_9_237 (by decide) rfl (ct_R_apartOf (by omega) (by omega) (by omega)) ?_
        refine rr_iload_n pf_287_31 rfl ?_
        refine rr_iload_n pf_287_32 rfl ?_
        refine rr_cS2 pf_287_33 po_287 pc_9_237 (by decide) rfl (ct_R_apartOf (by omega) (by omega) (by omega)) ?_
        refine rr_icmp_ge 56 pf_287_36 (by decide) (by unfold rg; omega) (by unfold rg; omega) (fun c5 => ?_) (fun c5 => ?_)
        · have hst : ¬ stepB p q g = true := fun z => by have := of_decide_eq_true z; omega
          refine rr_iinc pf_287_56 rfl (fun y => [.int (iI (((p : Nat) : Int))), .int (iI (((g : Nat) : Int))), .int (iI (((k : Nat) : Int))), .int (iI (((c : Nat) : Int))), .int (iI (its)), .int (iI (y))]) (fun _ => rfl) (fun y6 hy6 => ?_)
          refine rr_goto 8 pf_287_59 (by decide) ?_
          obtain ⟨n7, hn7, rfl⟩ : ∃ zz : Nat, zz = 1 + q ∧ y6 = ((zz : Nat) : Int) := ⟨1 + q, rfl, by omega⟩
          exact ih _ (by omega) c its n7 M rfl hq (by omega) (by rw [show n7 = q + 1 by omega, nrC, if_neg hst]; omega) (by rw [show n7 = q + 1 by omega, nrI, if_neg (fun z => hst z.1)]; omega)
        · have hst : stepB p q g = true := decide_eq_true ⟨by omega, by omega⟩
          refine rr_iload_n pf_287_39 rfl ?_
          refine rr_iload_n pf_287_40 rfl ?_
          refine rr_icmp_ne 49 pf_287_41 (by decide) (by unfold rg; omega) (by unfold rg; omega) (fun c8 => ?_) (fun c8 => ?_)
          · refine rr_iload pf_287_49 rfl ?_
            refine rr_istore pf_287_51 (fun y => [.int (iI (((p : Nat) : Int))), .int (iI (((g : Nat) : Int))), .int (iI (((k : Nat) : Int))), .int (iI (((c : Nat) : Int))), .int (iI (y)), .int (iI (((q : Nat) : Int)))]) (Nat.le_of_ble_eq_true rfl) (fun _ => rfl) (fun y9 hy9 => ?_)
            refine rr_iinc pf_287_53 rfl (fun y => [.int (iI (((p : Nat) : Int))), .int (iI (((g : Nat) : Int))), .int (iI (((k : Nat) : Int))), .int (iI (y)), .int (iI (y9)), .int (iI (((q : Nat) : Int)))]) (fun _ => rfl) (fun y10 hy10 => ?_)
            refine rr_iinc pf_287_56 rfl (fun y => [.int (iI (((p : Nat) : Int))), .int (iI (((g : Nat) : Int))), .int (iI (((k : Nat) : Int))), .int (iI (y10)), .int (iI (y9)), .int (iI (y))]) (fun _ => rfl) (fun y11 hy11 => ?_)
            refine rr_goto 8 pf_287_59 (by decide) ?_
            obtain ⟨n12, hn12, rfl⟩ : ∃ zz : Nat, zz = 1 + c ∧ y10 = ((zz : Nat) : Int) := ⟨1 + c, rfl, by omega⟩
            obtain ⟨n13, hn13, rfl⟩ : ∃ zz : Nat, zz = 1 + q ∧ y11 = ((zz : Nat) : Int) := ⟨1 + q, rfl, by omega⟩
            exact ih _ (by omega) n12 y9 n13 M rfl hq (by omega) (by rw [show n13 = q + 1 by omega, nrC, if_pos hst]; omega) (by rw [show n13 = q + 1 by omega, nrI, if_neg (fun z => by have := z.2; omega)]; omega)
          · refine rr_iload pf_287_44 rfl ?_
            refine rr_goto 51 pf_287_46 (by decide) ?_
            refine rr_istore pf_287_51 (fun y => [.int (iI (((p : Nat) : Int))), .int (iI (((g : Nat) : Int))), .int (iI (((k : Nat) : Int))), .int (iI (((c : Nat) : Int))), .int (iI (y)), .int (iI (((q : Nat) : Int)))]) (Nat.le_of_ble_eq_true rfl) (fun _ => rfl) (fun y14 hy14 => ?_)
            refine rr_iinc pf_287_53 rfl (fun y => [.int (iI (((p : Nat) : Int))), .int (iI (((g : Nat) : Int))), .int (iI (((k : Nat) : Int))), .int (iI (y)), .int (iI (y14)), .int (iI (((q : Nat) : Int)))]) (fun _ => rfl) (fun y15 hy15 => ?_)
            refine rr_iinc pf_287_56 rfl (fun y => [.int (iI (((p : Nat) : Int))), .int (iI (((g : Nat) : Int))), .int (iI (((k : Nat) : Int))), .int (iI (y15)), .int (iI (y14)), .int (iI (y))]) (fun _ => rfl) (fun y16 hy16 => ?_)
            refine rr_goto 8 pf_287_59 (by decide) ?_
            obtain ⟨n17, hn17, rfl⟩ : ∃ zz : Nat, zz = 1 + c ∧ y15 = ((zz : Nat) : Int) := ⟨1 + c, rfl, by omega⟩
            obtain ⟨n18, hn18, rfl⟩ : ∃ zz : Nat, zz = 1 + q ∧ y16 = ((zz : Nat) : Int) := ⟨1 + q, rfl, by omega⟩
            exact ih _ (by omega) n17 y14 n18 M rfl hq (by omega) (by rw [show n18 = q + 1 by omega, nrC, if_pos hst]; omega) (by rw [show n18 = q + 1 by omega, nrI, if_pos ⟨hst, by omega⟩]; omega)
theorem ct_R_nearer {xs : Nat → Int} {L d : Nat} {sh : List (Nat × Nat)} {M0 : Nat → Nat → Int} (hd : 2 ≤ d) (hW : px_W0 <+: sh) (hF : px_Fx M0) (hG : px_RG sh M0)  {p g : Nat} (hp : p < 16) (hg : g < 16) {k : Nat} (hk : k < 2) : ∃ v M, (px_qk sh [] M0 M ∧ (v = nrI p g k 16) ∧ (-1 ≤ v ∧ v < 16)) ∧ px_Cl xs L d 287 [.int (iI (((p : Nat) : Int))), .int (iI (((g : Nat) : Int))), .int (iI (((k : Nat) : Int)))] (sh, M0) (some (.int (iI v))) (sh, M) := by
  obtain ⟨d, rfl⟩ : ∃ e, d = e + 1 := ⟨d - 1, by omega⟩
  have q0 : px_qk sh [] M0 M0 := ⟨hF, hG, eo_rf⟩
  refine vc_i (Nat.le_of_ble_eq_true rfl) ?_
  show px_R xs L d 287 (0, [.int (iI (((p : Nat) : Int))), .int (iI (((g : Nat) : Int))), .int (iI (((k : Nat) : Int))), px_jk, px_jk, px_jk], [], (sh, M0)) (fun r h' => ∃ v M', r = some (.int (iI v)) ∧ h' = (sh, M') ∧ px_qk sh [] M0 M' ∧ v = nrI p g k 16 ∧ (-1 ≤ v ∧ v < 16))
  refine rr_iconst pf_287_0 ?_
  refine rr_istore_n pf_287_1 (fun y => [.int (iI (((p : Nat) : Int))), .int (iI (((g : Nat) : Int))), .int (iI (((k : Nat) : Int))), .int (iI (y)), px_jk, px_jk]) (Nat.le_of_ble_eq_true rfl) (fun _ => rfl) (fun y1 hy1 => ?_)
  refine rr_iconst pf_287_2 ?_
  refine rr_istore pf_287_3 (fun y => [.int (iI (((p : Nat) : Int))), .int (iI (((g : Nat) : Int))), .int (iI (((k : Nat) : Int))), .int (iI (y1)), .int (iI (y)), px_jk]) (Nat.le_of_ble_eq_true rfl) (fun _ => rfl) (fun y2 hy2 => ?_)
  refine rr_iconst pf_287_5 ?_
  refine rr_istore pf_287_6 (fun y => [.int (iI (((p : Nat) : Int))), .int (iI (((g : Nat) : Int))), .int (iI (((k : Nat) : Int))), .int (iI (y1)), .int (iI (y2)), .int (iI (y))]) (Nat.le_of_ble_eq_true rfl) (fun _ => rfl) (fun y3 hy3 => ?_)
  obtain ⟨n4, hn4, rfl⟩ : ∃ zz : Nat, zz = 0 ∧ y1 = ((zz : Nat) : Int) := ⟨0, rfl, by omega⟩
  obtain ⟨n5, hn5, rfl⟩ : ∃ zz : Nat, zz = 0 ∧ y3 = ((zz : Nat) : Int) := ⟨0, rfl, by omega⟩
  refine lp_R_nearer_8 (xs := xs) (L := L) (d := d) (by omega) hW hp hg hk (fun c_6 its_7 q_8  M9 q10 xI_M9 xb_M9 => ?_) _ n4 y2 n5 M0 rfl q0 (by omega) (by rw [show n4 = 0 by omega, show n5 = 0 by omega]; rfl) (by rw [show n5 = 0 by omega]; exact hy2)
  refine rr_iload pf_287_62 rfl ?_
  refine rr_iret pf_287_64 pt_287 ⟨_, M9, rfl, rfl, q10, (xI_M9), (xb_M9)⟩
theorem ct_R_leastOn {xs : Nat → Int} {L d : Nat} {sh : List (Nat × Nat)} {M0 : Nat → Nat → Int} (hd : 3 ≤ d) (hW : px_W0 <+: sh) (hF : px_Fx M0) (hG : px_RG sh M0)  {p g : Nat} (hp : p < 16) (hg : g < 16) (hpg : p ≠ g) {f : Nat → Int} (hl : ∀ q, q < 16 → stepB p q g = true → M0 259 q = f q) (hfb : ∀ q, 0 ≤ f q ∧ f q ≤ 1000000) : ∃ v M, (px_qk sh [] M0 M ∧ (v = lsF f p g 16)) ∧ px_Cl xs L d 286 [.ref 228, .int (iI (((p : Nat) : Int))), .int (iI (((g : Nat) : Int)))] (sh, M0) (some (.int (iI v))) (sh, M) := by
  obtain ⟨d, rfl⟩ : ∃ e, d = e + 1 := ⟨d - 1, by omega⟩
  have q0 : px_qk sh [] M0 M0 := ⟨hF, hG, eo_rf⟩
  have hn2 := nrC_2 p hp g hg hpg
  have hna := nr_all (p := p) (g := g) f 0 16
  have key : (∃ a : Nat, a < 16 ∧ stepB p a g = true ∧ nrI p g 0 16 = ((a : Nat) : Int) ∧ ((nrI p g 1 16 = -1 ∧ lsF f p g 16 = f a) ∨ (∃ b : Nat, b < 16 ∧ stepB p b g = true ∧ nrI p g 1 16 = ((b : Nat) : Int) ∧ lsF f p g 16 = min (f a) (f b)))) := by
    rcases (show nrC p g 16 = 1 ∨ nrC p g 16 = 2 by omega) with hz | hz
    · obtain ⟨a, ha, hsa, z1, z2, z3, _⟩ := hna.2.1 hz
      have := hfb a
      exact ⟨a, ha, hsa, z1, Or.inl ⟨z2, by omega⟩⟩
    · obtain ⟨a, b, ha, hb, hsa, hsb, z1, z2, z3, _⟩ := hna.2.2 hz
      have := hfb a
      exact ⟨a, ha, hsa, z1, Or.inr ⟨b, hb, hsb, z2, by omega⟩⟩
  obtain ⟨a, ha, hsa, hna0, hcs⟩ := key
  have hla := hl a ha hsa
  refine vc_i (Nat.le_of_ble_eq_true rfl) ?_
  show px_R xs L d 286 (0, [.ref 228, .int (iI (((p : Nat) : Int))), .int (iI (((g : Nat) : Int))), px_jk, px_jk], [], (sh, M0)) (fun r h' => ∃ v M', r = some (.int (iI v)) ∧ h' = (sh, M') ∧ px_qk sh [] M0 M' ∧ v = lsF f p g 16)
  refine rr_iload_n pf_286_0 rfl ?_
  refine rr_iload_n pf_286_1 rfl ?_
  refine rr_iconst pf_286_2 ?_
  obtain ⟨r3, M1, ⟨kq2, pv_M1, pb_M1⟩, hcM1⟩ := ct_R_nearer (xs := xs) (L := L) (d := d) (p := p) (g := g) (k := 0) (by omega) hW q0.1 q0.2.1 (by omega) (by omega) (by omega)
  rw [show ((0 : Nat) : Int) = 0 by omega] at hcM1
  obtain rfl := qk_nil kq2
  refine rr_cS3 pf_286_3 po_286 pc_9_547 (by decide) rfl hcM1 ?_
  refine rr_istore_n pf_286_6 (fun y => [.ref 228, .int (iI (((p : Nat) : Int))), .int (iI (((g : Nat) : Int))), .int (iI (y)), px_jk]) (Nat.le_of_ble_eq_true rfl) (fun _ => rfl) (fun y4 hy4 => ?_)
  refine rr_iload_n pf_286_7 rfl ?_
  refine rr_iload_n pf_286_8 rfl ?_
  refine rr_iconst pf_286_9 ?_
  obtain ⟨r7, M5, ⟨kq6, pv_M5, pb_M5⟩, hcM5⟩ := ct_R_nearer (xs := xs) (L := L) (d := d) (p := p) (g := g) (k := 1) (by omega) hW q0.1 q0.2.1 (by omega) (by omega) (by omega)
  rw [show ((1 : Nat) : Int) = 1 by omega] at hcM5
  obtain rfl := qk_nil kq6
  refine rr_cS3 pf_286_10 po_286 pc_9_547 (by decide) rfl hcM5 ?_
  refine rr_istore pf_286_13 (fun y => [.ref 228, .int (iI (((p : Nat) : Int))), .int (iI (((g : Nat) : Int))), .int (iI (y4)), .int (iI (y))]) (Nat.le_of_ble_eq_true rfl) (fun _ => rfl) (fun y8 hy8 => ?_)
  refine rr_iload pf_286_15 rfl ?_
  refine rr_iconst pf_286_17 ?_
  refine rr_icmp_eq 37 pf_286_18 (by decide) (by unfold rg; omega) (by unfold rg; omega) (fun c9 => ?_) (fun c9 => ?_)
  · have hmn : lsF f p g 16 = f a := by
      rcases hcs with ⟨_, z⟩ | ⟨b, _, _, z, _⟩
      · exact z
      · omega
    refine rr_aload_n pf_286_37 rfl ?_
    refine rr_getR pf_286_38 po_286 pg_9_146 rfl (ws_228 hW) (by decide) (wr_228_51 q0.1) ?_
    refine rr_iload_n pf_286_41 rfl ?_
    refine vr_iald (j := a) q0 pf_286_42 (ws_259 hW) (by omega) (by omega) (by decide) (fun x10 hx10 rx10 => ?_)
    refine rr_goto 53 pf_286_43 (by decide) ?_
    refine rr_iret pf_286_53 pt_286 ⟨_, M0, rfl, rfl, q0, (by omega)⟩
  · obtain ⟨b, hb, hsb, hnb, hmn⟩ := hcs.resolve_left (fun z => by have := z.1; omega)
    have hlb := hl b hb hsb
    refine rr_aload_n pf_286_21 rfl ?_
    refine rr_getR pf_286_22 po_286 pg_9_146 rfl (ws_228 hW) (by decide) (wr_228_51 q0.1) ?_
    refine rr_iload_n pf_286_25 rfl ?_
    refine vr_iald (j := a) q0 pf_286_26 (ws_259 hW) (by omega) (by omega) (by decide) (fun x11 hx11 rx11 => ?_)
    refine rr_aload_n pf_286_27 rfl ?_
    refine rr_getR pf_286_28 po_286 pg_9_146 rfl (ws_228 hW) (by decide) (wr_228_51 q0.1) ?_
    refine rr_iload pf_286_31 rfl ?_
    refine vr_iald (j := b) q0 pf_286_33 (ws_259 hW) (by omega) (by omega) (by decide) (fun x12 hx12 rx12 => ?_)
    refine rr_icmp_gt 46 pf_286_34 (by decide) rx11 rx12 (fun c13 => ?_) (fun c13 => ?_)
    · refine rr_aload_n pf_286_46 rfl ?_
      refine rr_getR pf_286_47 po_286 pg_9_146 rfl (ws_228 hW) (by decide) (wr_228_51 q0.1) ?_
      refine rr_iload pf_286_50 rfl ?_
      refine vr_iald (j := b) q0 pf_286_52 (ws_259 hW) (by omega) (by omega) (by decide) (fun x14 hx14 rx14 => ?_)
      refine rr_iret pf_286_53 pt_286 ⟨_, M0, rfl, rfl, q0, (by omega)⟩
    · refine rr_aload_n pf_286_37 rfl ?_
      refine rr_getR pf_286_38 po_286 pg_9_146 rfl (ws_228 hW) (by decide) (wr_228_51 q0.1) ?_
      refine rr_iload_n pf_286_41 rfl ?_
      refine vr_iald (j := a) q0 pf_286_42 (ws_259 hW) (by omega) (by omega) (by decide) (fun x15 hx15 rx15 => ?_)
      refine rr_goto 53 pf_286_43 (by decide) ?_
      refine rr_iret pf_286_53 pt_286 ⟨_, M0, rfl, rfl, q0, (by omega)⟩
noncomputable def sp_bk (lw : List sp_C) (ρ : Nat → Int) (p : Nat) : Int := if sp_from lw ρ p ≤ sp_sum ρ p then 1 else 0
theorem bk_b (lw : List sp_C) (ρ : Nat → Int) (q : Nat) : 0 ≤ sp_bk lw ρ q ∧ sp_bk lw ρ q ≤ 1 := by unfold sp_bk; split <;> omega
theorem wlv_ns {bk : Nat → Int} {g p : Nat} (h : p ≠ g) : wlv bk g p = wls bk g p + bk p := by unfold wlv wls; rw [if_neg h]
theorem wlv_g {bk : Nat → Int} {g : Nat} (hg : g < 16) : wlv bk g g = 0 := by
  unfold wlv
  rw [if_pos rfl, (aw_0 g hg g hg).mpr rfl]
  rfl
def wlc (bk : Nat → Int) (g p : Nat) : Int := min 1000000 (wlv bk g p)
theorem bA_7 {bk : Nat → Int} (hb : ∀ q, 0 ≤ bk q ∧ bk q ≤ 1) {g p : Nat} (hp : p < 16) (hg : g < 16) : 0 ≤ wls bk g p ∧ wls bk g p ≤ 6 := by
  have key : ∀ (d p : Nat), p < 16 → (aw p g).toNat = d → 0 ≤ bA bk g d p ∧ bA bk g d p ≤ d := by
    intro d
    induction d with
    | zero => intro p _ _; simp [bA]
    | succ d ih =>
      intro p hp hd
      have hne : p ≠ g := fun z => by rw [z, (aw_0 g hg g hg).mpr rfl] at hd; simp at hd
      have aux : ∀ a, a < 16 → stepB p a g = true → 0 ≤ bA bk g d a + (if a = g then 0 else bk a) ∧ bA bk g d a + (if a = g then 0 else bk a) ≤ d + 1 := by
        intro a ha hs
        have hs2 := step_d p hp a ha g hg hs
        have := ih a ha (by omega)
        have := hb a
        split <;> omega
      have hn2 := nrC_2 p hp g hg hne
      have hna := nr_all (p := p) (g := g) (fun q => bA bk g d q + (if q = g then 0 else bk q)) 0 16
      simp only [bA]
      rcases (show nrC p g 16 = 1 ∨ nrC p g 16 = 2 by omega) with hz | hz
      · obtain ⟨a, ha, hsa, z1, z2, z3, _⟩ := hna.2.1 hz
        have := aux a ha hsa
        rw [z3]
        omega
      · obtain ⟨a, b, ha, hb2, hsa, hsb, z1, z2, z3, _⟩ := hna.2.2 hz
        have := aux a ha hsa
        have := aux b hb2 hsb
        rw [z3]
        omega
  have h6 := aw_rg (p := p) (q := g) (by omega) (by omega)
  have := key (aw p g).toNat p hp rfl
  unfold wls
  omega
theorem wlv_7 {bk : Nat → Int} (hb : ∀ q, 0 ≤ bk q ∧ bk q ≤ 1) {g p : Nat} (hp : p < 16) (hg : g < 16) : 0 ≤ wlv bk g p ∧ wlv bk g p ≤ 7 := by
  have h1 := bA_7 hb hp hg
  have h2 := hb p
  unfold wls at h1
  unfold wlv
  split <;> omega
theorem lp_R_layWay_17 {xs : Nat → Int} {L d : Nat} {sh : List (Nat × Nat)} (hd : 8 ≤ d) (hW : px_W0 <+: sh) {M0 : Nat → Nat → Int}  (hρ : sp_ok (rr_ M0)) {lw : List sp_C} (hlw : px_lwR M0 lw) (hord : M0 228 20 = 0) {g : Nat} (hg : g < 16) {far : Nat} (hf1 : 1 ≤ far ∧ far < 7) {Q : Option Value → px_H → Prop} (kx : ∀ (p : Nat) (M : Nat → Nat → Int), px_qk sh [228, 246, 248, 259] M0 M → (rq M0 M) → (∀ q : Nat, q < 16 → aw q g < far + 1 → M 259 q = wlv (sp_bk lw (rr_ M0)) g q) → px_R xs L d 285 (64, [.ref 228, .int (iI (((g : Nat) : Int))), .int (iI (((far : Nat) : Int))), .int (iI (((p : Nat) : Int)))], [], (sh, M)) Q)  : ∀ (mz : Nat) (p : Nat) (M : Nat → Nat → Int), 16 - p = mz → px_qk sh [228, 246, 248, 259] M0 M → (rq M0 M) → (p ≤ 16) → (∀ q : Nat, q < 16 → (aw q g < far ∨ (aw q g = far ∧ q < p)) → M 259 q = wlv (sp_bk lw (rr_ M0)) g q) → px_R xs L d 285 (17, [.ref 228, .int (iI (((g : Nat) : Int))), .int (iI (((far : Nat) : Int))), .int (iI (((p : Nat) : Int)))], [], (sh, M)) Q := by
  intro mz
  induction mz using Nat.strongRecOn with
  | _ mz ih =>
    intro p M hm hq hrq hp hv
    have hap := fun (h : p < 16) => aw_rg (p := (p : Int)) (q := (g : Int)) (by omega) (by omega)
    refine rr_iload_n pf_285_17 rfl ?_
    refine rr_bipush pf_285_18 (by decide) ?_
    refine rr_icmp_ge 64 pf_285_20 (by decide) (by unfold rg; omega) (by unfold rg; omega) (fun c1 => ?_) (fun c1 => ?_)
    · exact kx p M hq (hrq) (by intro q hq hc; exact hv q hq (by omega))
    · have hap := hap (by omega)
      refine rr_iload_n pf_285_23 rfl ?_
      refine rr_iload_n pf_285_24 rfl ?_
      refine rr_cS2 pf_285_25 po_285 pc_9_237 (by decide) rfl (ct_R_apartOf (by omega) (by omega) (by omega)) ?_
      refine rr_iload_n pf_285_28 rfl ?_
      refine rr_icmp_ne 58 pf_285_29 (by decide) (by unfold rg; omega) (by unfold rg; omega) (fun c2 => ?_) (fun c2 => ?_)
      · refine rr_iinc pf_285_58 rfl (fun y => [.ref 228, .int (iI (((g : Nat) : Int))), .int (iI (((far : Nat) : Int))), .int (iI (y))]) (fun _ => rfl) (fun y3 hy3 => ?_)
        refine rr_goto 17 pf_285_61 (by decide) ?_
        obtain ⟨n4, hn4, rfl⟩ : ∃ zz : Nat, zz = 1 + p ∧ y3 = ((zz : Nat) : Int) := ⟨1 + p, rfl, by omega⟩
        exact ih _ (by omega) n4 M rfl hq (hrq) (by omega) (by
                      intro q hq hc; refine hv q hq ?_; rcases (show q = p ∨ q ≠ p by omega) with z | z
                      · subst z; left; omega
                      · omega)
      · have hpg : p ≠ g := fun z => by have := (aw_0 p (by omega) g hg).mpr z; omega
        refine rr_aload_n pf_285_32 rfl ?_
        refine rr_getR pf_285_33 po_285 pg_9_146 rfl (ws_228 hW) (by decide) (wr_228_51 hq.1) ?_
        refine rr_iload_n pf_285_36 rfl ?_
        refine rr_aload_n pf_285_37 rfl ?_
        refine rr_iload_n pf_285_38 rfl ?_
        refine rr_iload_n pf_285_39 rfl ?_
        obtain ⟨r7, M5, ⟨kq6, pv_M5⟩, hcM5⟩ := ct_R_leastOn (xs := xs) (L := L) (d := d) (p := p) (g := g) (f := fun q => if q < 16 then wlv (sp_bk lw (rr_ M0)) g q else 0) (by omega) hW hq.1 hq.2.1 (by omega) (by omega) hpg (fun q hq hs => by rw [if_pos hq]; exact hv q hq (Or.inl (by have := step_d p (by omega) q hq g hg hs; omega))) (fun q => by split; (have := wlv_7 (bk_b lw (rr_ M0)) (p := q) (g := g) (by assumption) hg; omega); omega)
        obtain rfl := qk_nil kq6
        refine rr_cV2 pf_285_40 po_285 pc_9_550 (ws_228 hW) po_286 (by decide) rfl hcM5 ?_
        have hls : lsF (fun q => if q < 16 then wlv (sp_bk lw (rr_ M0)) g q else 0) p g 16 = lsF (wlv (sp_bk lw (rr_ M0)) g) p g 16 := lsF_congr 16 (fun q hq _ => if_pos hq)
        rw [hls, ← wls_eq (by omega) hg hpg] at pv_M5
        have hwb := bA_7 (bk_b lw (rr_ M0)) (p := p) (g := g) (by omega) hg
        rw [wls_eq (by omega) hg hpg] at pv_M5 hwb
        refine rr_aload_n pf_285_43 rfl ?_
        refine rr_iload_n pf_285_44 rfl ?_
        obtain ⟨M8, ⟨kq9, pf_M8⟩, hcM8⟩ := ct_R_isBlack (xs := xs) (L := L) (d := d) (p := p) (lw := lw) (by omega) hW hq.1 hq.2.1 (by rw [rr_q hq (by decide)]; exact hρ) (lwR_q hq (by decide) hlw) ((hrq 20 (by decide)).trans hord) (by omega)
        rw [rr_q hq (by decide)] at hcM8
        have q9 := qk_trm hq kq9 (by decide)
        have rq11 := rq_tr hrq pf_M8
        refine rr_cV1 pf_285_45 po_285 pc_9_234 (ws_228 hW) po_201 (by decide) rfl hcM8 ?_
        
        refine rr_ifb_eq 55 pf_285_48 (by decide) (fun c12 => ?_) (fun c12 => ?_)
        · have hbk := c12
          refine rr_iconst pf_285_55 ?_
          refine rr_iadd pf_285_56 ?_
          refine vr_iast (j := p) hW q9 pf_285_57 (ws_259 hW) (by omega) (by omega) (by decide) (by unfold rg; omega) (by decide) (fun M13 eM13 q14 => ?_)
          have rq15 := rq_ne rq11 eM13 (by decide)
          refine rr_iinc pf_285_58 rfl (fun y => [.ref 228, .int (iI (((g : Nat) : Int))), .int (iI (((far : Nat) : Int))), .int (iI (y))]) (fun _ => rfl) (fun y16 hy16 => ?_)
          refine rr_goto 17 pf_285_61 (by decide) ?_
          obtain ⟨n17, hn17, rfl⟩ : ∃ zz : Nat, zz = 1 + p ∧ y16 = ((zz : Nat) : Int) := ⟨1 + p, rfl, by omega⟩
          exact ih _ (by omega) n17 M13 rfl q14 (rq15) (by omega) (by
                          intro q hq hc; rw [eM13, ask_up]; by_cases hz : q = p
                          · rw [if_pos hz, hz, wlv_ns hpg, wls_eq (by omega) hg hpg]; have hbv : sp_bk lw (rr_ M0) p = 0 := by unfold sp_bk; rw [if_neg hbk]
                            omega
                          · rw [if_neg hz, kq9.2.2 259 (by decide)]; exact hv q hq (by omega))
        · have hbk := c12
          refine rr_iconst pf_285_51 ?_
          refine rr_goto 56 pf_285_52 (by decide) ?_
          refine rr_iadd pf_285_56 ?_
          refine vr_iast (j := p) hW q9 pf_285_57 (ws_259 hW) (by omega) (by omega) (by decide) (by unfold rg; omega) (by decide) (fun M18 eM18 q19 => ?_)
          have rq20 := rq_ne rq11 eM18 (by decide)
          refine rr_iinc pf_285_58 rfl (fun y => [.ref 228, .int (iI (((g : Nat) : Int))), .int (iI (((far : Nat) : Int))), .int (iI (y))]) (fun _ => rfl) (fun y21 hy21 => ?_)
          refine rr_goto 17 pf_285_61 (by decide) ?_
          obtain ⟨n22, hn22, rfl⟩ : ∃ zz : Nat, zz = 1 + p ∧ y21 = ((zz : Nat) : Int) := ⟨1 + p, rfl, by omega⟩
          exact ih _ (by omega) n22 M18 rfl q19 (rq20) (by omega) (by
                          intro q hq hc; rw [eM18, ask_up]; by_cases hz : q = p
                          · rw [if_pos hz, hz, wlv_ns hpg, wls_eq (by omega) hg hpg]; have hbv : sp_bk lw (rr_ M0) p = 1 := by unfold sp_bk; rw [if_pos hbk]
                            omega
                          · rw [if_neg hz, kq9.2.2 259 (by decide)]; exact hv q hq (by omega))
theorem lp_R_layWay_9 {xs : Nat → Int} {L d : Nat} {sh : List (Nat × Nat)} (hd : 8 ≤ d) (hW : px_W0 <+: sh) {M0 : Nat → Nat → Int}  (hρ : sp_ok (rr_ M0)) {lw : List sp_C} (hlw : px_lwR M0 lw) (hord : M0 228 20 = 0) {g : Nat} (hg : g < 16)  {Q : Option Value → px_H → Prop} (kx : ∀ (far : Nat) (v3 : Value) (M : Nat → Nat → Int), px_qk sh [228, 246, 248, 259] M0 M → (rq M0 M) → (∀ q, q < 16 → M 259 q = wlv (sp_bk lw (rr_ M0)) g q) → px_R xs L d 285 (70, [.ref 228, .int (iI (((g : Nat) : Int))), .int (iI (((far : Nat) : Int))), v3], [], (sh, M)) Q)  : ∀ (mz : Nat) (far : Nat) (v3 : Value) (M : Nat → Nat → Int), 7 - far = mz → px_qk sh [228, 246, 248, 259] M0 M → (rq M0 M) → (1 ≤ far ∧ far ≤ 7) → (∀ q : Nat, q < 16 → aw q g < far → M 259 q = wlv (sp_bk lw (rr_ M0)) g q) → px_R xs L d 285 (9, [.ref 228, .int (iI (((g : Nat) : Int))), .int (iI (((far : Nat) : Int))), v3], [], (sh, M)) Q := by
  intro mz
  induction mz using Nat.strongRecOn with
  | _ mz ih =>
    intro far v3 M hm hq hrq hf hv
    refine rr_iload_n pf_285_9 rfl ?_
    refine rr_bipush pf_285_10 (by decide) ?_
    refine rr_icmp_ge 70 pf_285_12 (by decide) (by unfold rg; omega) (by unfold rg; omega) (fun c1 => ?_) (fun c1 => ?_)
    · exact kx far _ M hq (hrq) (by intro q hq; refine hv q hq ?_; have := aw_rg (p := (q : Int)) (q := (g : Int)) (by omega) (by omega); omega)
    · refine rr_iconst pf_285_15 ?_
      refine rr_istore_n pf_285_16 (fun y => [.ref 228, .int (iI (((g : Nat) : Int))), .int (iI (((far : Nat) : Int))), .int (iI (y))]) (Nat.le_of_ble_eq_true rfl) (fun _ => rfl) (fun y2 hy2 => ?_)
      obtain ⟨n3, hn3, rfl⟩ : ∃ zz : Nat, zz = 0 ∧ y2 = ((zz : Nat) : Int) := ⟨0, rfl, by omega⟩
      refine lp_R_layWay_17 (xs := xs) (L := L) (d := d) (by omega) hW hρ hlw hord hg (by omega) (fun p_4  M5 q6 xrq_M5 xi_M5 => ?_) _ n3 M rfl hq (hrq) (by omega) (by intro q hq hc; exact hv q hq (by omega))
      refine rr_iinc pf_285_64 rfl (fun y => [.ref 228, .int (iI (((g : Nat) : Int))), .int (iI (y)), .int (iI (((p_4 : Nat) : Int)))]) (fun _ => rfl) (fun y7 hy7 => ?_)
      refine rr_goto 9 pf_285_67 (by decide) ?_
      obtain ⟨n8, hn8, rfl⟩ : ∃ zz : Nat, zz = 1 + far ∧ y7 = ((zz : Nat) : Int) := ⟨1 + far, rfl, by omega⟩
      exact ih _ (by omega) n8 _ M5 rfl q6 (xrq_M5) (by omega) (by intro q hq hc; exact xi_M5 q hq (by omega))
theorem ct_R_layWay {xs : Nat → Int} {L d : Nat} {sh : List (Nat × Nat)} {M0 : Nat → Nat → Int} (hd : 9 ≤ d) (hW : px_W0 <+: sh) (hF : px_Fx M0) (hG : px_RG sh M0)  (hρ : sp_ok (rr_ M0)) {lw : List sp_C} (hlw : px_lwR M0 lw) (hord : M0 228 20 = 0) {g : Nat} (hg : g < 16) : ∃ M, (px_qk sh [228, 246, 248, 259] M0 M ∧ (∀ q, q < 16 → M 259 q = wlv (sp_bk lw (rr_ M0)) g q) ∧ (rq M0 M)) ∧ px_Cl xs L d 285 [.ref 228, .int (iI (((g : Nat) : Int)))] (sh, M0) (none) (sh, M) := by
  obtain ⟨d, rfl⟩ : ∃ e, d = e + 1 := ⟨d - 1, by omega⟩
  have q0 : px_qk sh [228, 246, 248, 259] M0 M0 := ⟨hF, hG, eo_rf⟩
  refine vc_n (Nat.le_of_ble_eq_true rfl) ?_
  show px_R xs L d 285 (0, [.ref 228, .int (iI (((g : Nat) : Int))), px_jk, px_jk], [], (sh, M0)) (fun r h' => r = none ∧ ∃ M', h' = (sh, M') ∧ px_qk sh [228, 246, 248, 259] M0 M' ∧ (∀ q, q < 16 → M' 259 q = wlv (sp_bk lw (rr_ M0)) g q) ∧ rq M0 M')
  refine rr_aload_n pf_285_0 rfl ?_
  refine rr_getR pf_285_1 po_285 pg_9_146 rfl (ws_228 hW) (by decide) (wr_228_51 q0.1) ?_
  refine rr_iload_n pf_285_4 rfl ?_
  refine rr_iconst pf_285_5 ?_
  refine vr_iast (j := g) hW q0 pf_285_6 (ws_259 hW) (by omega) (by omega) (by decide) (by unfold rg; omega) (by decide) (fun M1 eM1 q2 => ?_)
  have rq3 := rq_ne (rq_rf M0) eM1 (by decide)
  refine rr_iconst pf_285_7 ?_
  refine rr_istore_n pf_285_8 (fun y => [.ref 228, .int (iI (((g : Nat) : Int))), .int (iI (y)), px_jk]) (Nat.le_of_ble_eq_true rfl) (fun _ => rfl) (fun y4 hy4 => ?_)
  obtain ⟨n5, hn5, rfl⟩ : ∃ zz : Nat, zz = 1 ∧ y4 = ((zz : Nat) : Int) := ⟨1, rfl, by omega⟩
  refine lp_R_layWay_9 (xs := xs) (L := L) (d := d) (by omega) hW hρ hlw hord hg (fun far_6 v9 M7 q8 xrq_M7 xv_M7 => ?_) _ n5 _ M1 rfl q2 (rq3) (by omega) (by
          intro q hq hc; have hqg : q = g := (aw_0 q hq g hg).mp (by have := aw_rg (p := (q : Int)) (q := (g : Int)) (by omega) (by omega); omega)
          rw [hqg, wlv_g hg, eM1, up_s])
  refine rr_vret pf_285_70 pt_285 ⟨rfl, M7, rfl, q8, (xv_M7), (xrq_M7)⟩
noncomputable def sp_way (lw : List sp_C) (ρ : Nat → Int) (g i : Int) : Int := if (0 ≤ g ∧ g ≤ 15) ∧ g ≠ ρ 8 ∧ -1 ≤ i then (if i = -1 then wls (sp_bk lw ρ) g.toNat (ρ 8).toNat else if i < aw (ρ 8) g then ((wyP (sp_bk lw ρ) g.toNat (ρ 8).toNat (i + 1).toNat : Nat) : Int) else -1) else -1
theorem wy_step {bk : Nat → Int} (hb : ∀ q, 0 ≤ bk q ∧ bk q ≤ 1) {g p : Nat} (hp : p < 16) (hg : g < 16) (hpg : p ≠ g) : ∃ a : Nat, a < 16 ∧ stepB p a g = true ∧ nrI p g 0 16 = ((a : Nat) : Int) ∧ ((wlv bk g a = wls bk g p ∧ fnW (wlv bk g) (wls bk g p) p g 16 = ((a : Nat) : Int)) ∨ (wlv bk g a ≠ wls bk g p ∧ ∃ b : Nat, b < 16 ∧ stepB p b g = true ∧ nrI p g 1 16 = ((b : Nat) : Int) ∧ fnW (wlv bk g) (wls bk g p) p g 16 = ((b : Nat) : Int))) := by
  have hn2 := nrC_2 p hp g hg hpg
  have hna := nr_all (p := p) (g := g) (wlv bk g) (wls bk g p) 16
  have hw := wls_eq (bk := bk) hp hg hpg
  rcases (show nrC p g 16 = 1 ∨ nrC p g 16 = 2 by omega) with hz | hz
  · obtain ⟨a, ha, hsa, z1, z2, z3, z4⟩ := hna.2.1 hz
    have h7 := wlv_7 hb (p := a) ha hg
    have he : wlv bk g a = wls bk g p := by omega
    exact ⟨a, ha, hsa, z1, Or.inl ⟨he, by rw [z4, if_pos he]⟩⟩
  · obtain ⟨a, b, ha, hb2, hsa, hsb, z1, z2, z3, z4⟩ := hna.2.2 hz
    have h7 := wlv_7 hb (p := a) ha hg
    by_cases he : wlv bk g a = wls bk g p
    · exact ⟨a, ha, hsa, z1, Or.inl ⟨he, by rw [z4, if_pos he]⟩⟩
    · have he2 : wlv bk g b = wls bk g p := by omega
      exact ⟨a, ha, hsa, z1, Or.inr ⟨he, b, hb2, hsb, z2, by rw [z4, if_neg he, if_pos he2]⟩⟩
theorem lp_R_way1_52 {xs : Nat → Int} {L d : Nat} {sh : List (Nat × Nat)} (hd : 10 ≤ d) (hW : px_W0 <+: sh) {M0 : Nat → Nat → Int}  (hρ : sp_ok (rr_ M0)) {lw : List sp_C} (hlw : px_lwR M0 lw) (hord : M0 228 20 = 0) {g : Nat} (hg : g < 16) {p0 : Nat} (hp0 : rr_ M0 8 = ((p0 : Nat) : Int)) (hp16 : p0 < 16) (hpg : p0 ≠ g) {i : Int} (hi0 : rg i) (hi1 : -1 ≤ i)  {Q : Option Value → px_H → Prop} (kx : ∀ (p : Nat) (k : Nat) (v5 : Value) (M : Nat → Nat → Int), px_qk sh [228, 246, 248, 259] M0 M → (rz [] M0 M) → (p = wyP (sp_bk lw (rr_ M0)) g p0 (i + 1).toNat) → (i < aw p0 g) → (p < 16) → px_R xs L d 284 (107, [.ref 228, .int (iI (((g : Nat) : Int))), .int (iI (i)), .int (iI (((p : Nat) : Int))), .int (iI (((k : Nat) : Int))), v5], [], (sh, M)) Q) (hQ : ∀ r h', (fun r h' => ∃ v M', r = some (.int (iI v)) ∧ h' = (sh, M') ∧ px_qk sh [228, 246, 248, 259] M0 M' ∧ v = sp_way lw (rr_ M0) ((g : Nat) : Int) i ∧ rz [] M0 M') r h' → Q r h') : ∀ (mz : Nat) (p : Nat) (k : Nat) (v5 : Value) (M : Nat → Nat → Int), (i + 1).toNat - k = mz → px_qk sh [228, 246, 248, 259] M0 M → (rz [] M0 M) → (∀ q, q < 16 → M 259 q = wlv (sp_bk lw (rr_ M0)) g q) → ((k : Int) ≤ i + 1) → (p < 16) → ((k : Int) ≤ aw p0 g ∧ aw p0 g ≤ 6) → (p = wyP (sp_bk lw (rr_ M0)) g p0 k) → (aw p g = aw p0 g - k) → px_R xs L d 284 (52, [.ref 228, .int (iI (((g : Nat) : Int))), .int (iI (i)), .int (iI (((p : Nat) : Int))), .int (iI (((k : Nat) : Int))), v5], [], (sh, M)) Q := by
  intro mz
  induction mz using Nat.strongRecOn with
  | _ mz ih =>
    intro p k v5 M hm hq hrq hWV hk hp hk6 hpw hd
    have hb := bk_b lw (rr_ M0)
    refine rr_iload pf_284_52 rfl ?_
    refine rr_iload_n pf_284_54 rfl ?_
    refine rr_icmp_gt 107 pf_284_55 (by decide) (by unfold rg; omega) hi0 (fun c1 => ?_) (fun c1 => ?_)
    · exact kx p k _ M hq (hrq) (by rw [hpw, show (i + 1).toNat = k by omega]) (by have := aw_rg (p := (p : Int)) (q := (g : Int)) (by omega) (by omega); omega) (hp)
    · refine rr_iload_n pf_284_58 rfl ?_
      refine rr_iload_n pf_284_59 rfl ?_
      refine rr_icmp_ne 65 pf_284_60 (by decide) (by unfold rg; omega) (by unfold rg; omega) (fun c2 => ?_) (fun c2 => ?_)
      · have hne : p ≠ g := fun z => by omega
        obtain ⟨a, ha16, hsa, hna0, hcs⟩ := wy_step hb hp hg hne
        refine rr_iload_n pf_284_65 rfl ?_
        refine rr_iload_n pf_284_66 rfl ?_
        refine rr_iconst pf_284_67 ?_
        obtain ⟨r5, M3, ⟨kq4, pv_M3, pb_M3⟩, hcM3⟩ := ct_R_nearer (xs := xs) (L := L) (d := d) (p := p) (g := g) (k := 0) (by omega) hW hq.1 hq.2.1 hp (by omega) (by omega)
        rw [show ((0 : Nat) : Int) = 0 by omega] at hcM3
        obtain rfl := qk_nil kq4
        refine rr_cS3 pf_284_68 po_284 pc_9_547 (by decide) rfl hcM3 ?_
        refine rr_istore pf_284_71 (fun y => [.ref 228, .int (iI (((g : Nat) : Int))), .int (iI (i)), .int (iI (((p : Nat) : Int))), .int (iI (((k : Nat) : Int))), .int (iI (y))]) (Nat.le_of_ble_eq_true rfl) (fun _ => rfl) (fun y6 hy6 => ?_)
        refine rr_aload_n pf_284_73 rfl ?_
        refine rr_getR pf_284_74 po_284 pg_9_146 rfl (ws_228 hW) (by decide) (wr_228_51 hq.1) ?_
        refine rr_iload pf_284_77 rfl ?_
        refine vr_iald (j := a) hq pf_284_79 (ws_259 hW) (by omega) (by omega) (by decide) (fun x7 hx7 rx7 => ?_)
        rw [hWV a ha16] at hx7
        have h7 := wlv_7 hb (p := a) (g := g) ha16 hg
        refine rr_aload_n pf_284_80 rfl ?_
        refine rr_iload_n pf_284_81 rfl ?_
        refine rr_iload_n pf_284_82 rfl ?_
        obtain ⟨r10, M8, ⟨kq9, pv_M8⟩, hcM8⟩ := ct_R_leastOn (xs := xs) (L := L) (d := d) (p := p) (g := g) (f := fun q => if q < 16 then wlv (sp_bk lw (rr_ M0)) g q else 0) (by omega) hW hq.1 hq.2.1 hp (by omega) hne (fun q hq _ => by rw [if_pos hq]; exact hWV q hq) (fun q => by split; (have := wlv_7 (bk_b lw (rr_ M0)) (p := q) (g := g) (by assumption) hg; omega); omega)
        obtain rfl := qk_nil kq9
        refine rr_cV2 pf_284_83 po_284 pc_9_550 (ws_228 hW) po_286 (by decide) rfl hcM8 ?_
        have hls : r10 = wls (sp_bk lw (rr_ M0)) g p := by rw [pv_M8, wls_eq hp hg hne]; exact lsF_congr 16 (fun q hq _ => if_pos hq)
        have hwb := bA_7 hb (p := p) (g := g) hp hg
        refine rr_icmp_ne 94 pf_284_86 (by decide) rx7 (by unfold rg; omega) (fun c11 => ?_) (fun c11 => ?_)
        · refine rr_iload_n pf_284_94 rfl ?_
          refine rr_iload_n pf_284_95 rfl ?_
          refine rr_iconst pf_284_96 ?_
          obtain ⟨r14, M12, ⟨kq13, pv_M12, pb_M12⟩, hcM12⟩ := ct_R_nearer (xs := xs) (L := L) (d := d) (p := p) (g := g) (k := 1) (by omega) hW hq.1 hq.2.1 hp (by omega) (by omega)
          rw [show ((1 : Nat) : Int) = 1 by omega] at hcM12
          obtain rfl := qk_nil kq13
          refine rr_cS3 pf_284_97 po_284 pc_9_547 (by decide) rfl hcM12 ?_
          obtain ⟨hna, b, hb16, hsb, hnb, hfn⟩ := hcs.resolve_left (fun z => by have := z.1; omega)
          have hPN : b < 16 ∧ b = (fnW (wlv (sp_bk lw (rr_ M0)) g) (wls (sp_bk lw (rr_ M0)) g p) p g 16).toNat ∧ aw b g = aw p g - 1 ∧ 0 ≤ aw b g := ⟨hb16, by rw [hfn]; omega, step_d p hp b hb16 g hg hsb, (aw_rg (p := (b : Int)) (q := (g : Int)) (by omega) (by omega)).1⟩
          clear hcs
          have hxb : r14 = ((b : Nat) : Int) := by omega
          refine rr_istore_n pf_284_100 (fun y => [.ref 228, .int (iI (((g : Nat) : Int))), .int (iI (i)), .int (iI (y)), .int (iI (((k : Nat) : Int))), .int (iI (y6))]) (Nat.le_of_ble_eq_true rfl) (fun _ => rfl) (fun y15 hy15 => ?_)
          refine rr_iinc pf_284_101 rfl (fun y => [.ref 228, .int (iI (((g : Nat) : Int))), .int (iI (i)), .int (iI (y15)), .int (iI (y)), .int (iI (y6))]) (fun _ => rfl) (fun y16 hy16 => ?_)
          refine rr_goto 52 pf_284_104 (by decide) ?_
          obtain ⟨n17, hn17, rfl⟩ : ∃ zz : Nat, zz = b ∧ y15 = ((zz : Nat) : Int) := ⟨b, rfl, by omega⟩
          obtain ⟨n18, hn18, rfl⟩ : ∃ zz : Nat, zz = 1 + k ∧ y16 = ((zz : Nat) : Int) := ⟨1 + k, rfl, by omega⟩
          exact ih _ (by omega) n17 n18 _ M rfl hq (hrq) (hWV) (by omega) (by rw [show n17 = b by omega]; exact hPN.1) (by have := hPN.2.2; omega) (by rw [show n18 = k + 1 by omega, wyP, ← hpw, show n17 = b by omega]; exact hPN.2.1) (by have := hPN.2.2; rw [show n17 = b by omega]; omega)
        · refine rr_iload pf_284_89 rfl ?_
          refine rr_goto 100 pf_284_91 (by decide) ?_
          obtain ⟨_, hfn⟩ := hcs.resolve_right (fun z => by have := z.1; omega)
          have hPN : a < 16 ∧ a = (fnW (wlv (sp_bk lw (rr_ M0)) g) (wls (sp_bk lw (rr_ M0)) g p) p g 16).toNat ∧ aw a g = aw p g - 1 ∧ 0 ≤ aw a g := ⟨ha16, by rw [hfn]; omega, step_d p hp a ha16 g hg hsa, (aw_rg (p := (a : Int)) (q := (g : Int)) (by omega) (by omega)).1⟩
          clear hcs
          refine rr_istore_n pf_284_100 (fun y => [.ref 228, .int (iI (((g : Nat) : Int))), .int (iI (i)), .int (iI (y)), .int (iI (((k : Nat) : Int))), .int (iI (y6))]) (Nat.le_of_ble_eq_true rfl) (fun _ => rfl) (fun y19 hy19 => ?_)
          refine rr_iinc pf_284_101 rfl (fun y => [.ref 228, .int (iI (((g : Nat) : Int))), .int (iI (i)), .int (iI (y19)), .int (iI (y)), .int (iI (y6))]) (fun _ => rfl) (fun y20 hy20 => ?_)
          refine rr_goto 52 pf_284_104 (by decide) ?_
          obtain ⟨n21, hn21, rfl⟩ : ∃ zz : Nat, zz = y19.toNat ∧ y19 = ((zz : Nat) : Int) := ⟨y19.toNat, rfl, by omega⟩
          obtain ⟨n22, hn22, rfl⟩ : ∃ zz : Nat, zz = 1 + k ∧ y20 = ((zz : Nat) : Int) := ⟨1 + k, rfl, by omega⟩
          exact ih _ (by omega) n21 n22 _ M rfl hq (hrq) (hWV) (by omega) (by rw [show n21 = a by omega]; exact hPN.1) (by have := hPN.2.2; omega) (by rw [show n22 = k + 1 by omega, wyP, ← hpw, show n21 = a by omega]; exact hPN.2.1) (by have := hPN.2.2; rw [show n21 = a by omega]; omega)
      · have hz0 := (aw_0 p hp g hg).mpr (by omega)
        refine rr_iconst pf_284_63 ?_
        refine rr_iret pf_284_64 pt_284 (hQ _ _ ⟨_, M, rfl, rfl, hq, (by unfold sp_way; rw [hp0, show (((p0 : Nat) : Int)).toNat = p0 from Int.toNat_natCast _, show (((g : Nat) : Int)).toNat = g from Int.toNat_natCast _, if_pos (by omega), if_neg (by omega), if_neg (by omega)]), (hrq)⟩)
theorem ct_R_way1 {xs : Nat → Int} {L d : Nat} {sh : List (Nat × Nat)} {M0 : Nat → Nat → Int} (hd : 11 ≤ d) (hW : px_W0 <+: sh) (hF : px_Fx M0) (hG : px_RG sh M0)  (hρ : sp_ok (rr_ M0)) {lw : List sp_C} (hlw : px_lwR M0 lw) (hord : M0 228 20 = 0) {g : Nat} (hg : g < 16) {p0 : Nat} (hp0 : rr_ M0 8 = ((p0 : Nat) : Int)) (hp16 : p0 < 16) (hpg : p0 ≠ g) {i : Int} (hi0 : rg i) (hi1 : -1 ≤ i) : ∃ v M, (px_qk sh [228, 246, 248, 259] M0 M ∧ (v = sp_way lw (rr_ M0) ((g : Nat) : Int) i) ∧ (rz [] M0 M)) ∧ px_Cl xs L d 284 [.ref 228, .int (iI (((g : Nat) : Int))), .int (iI (i))] (sh, M0) (some (.int (iI v))) (sh, M) := by
  obtain ⟨d, rfl⟩ : ∃ e, d = e + 1 := ⟨d - 1, by omega⟩
  have q0 : px_qk sh [228, 246, 248, 259] M0 M0 := ⟨hF, hG, eo_rf⟩
  have hap := aw_rg (p := (p0 : Int)) (q := (g : Int)) (by omega) (by omega)
  refine vc_i (Nat.le_of_ble_eq_true rfl) ?_
  show px_R xs L d 284 (0, [.ref 228, .int (iI (((g : Nat) : Int))), .int (iI (i)), px_jk, px_jk, px_jk], [], (sh, M0)) (fun r h' => ∃ v M', r = some (.int (iI v)) ∧ h' = (sh, M') ∧ px_qk sh [228, 246, 248, 259] M0 M' ∧ v = sp_way lw (rr_ M0) ((g : Nat) : Int) i ∧ rz [] M0 M')
  refine rr_aload_n pf_284_0 rfl ?_
  refine rr_iconst pf_284_1 ?_
  refine vr_putI hW q0 pf_284_2 po_284 pg_9_177 (Or.inl rfl) rfl (ws_228 hW) (by decide) (by unfold rg; omega) (by decide) (fun M1 eM1 q2 => ?_)
  have rq3 := rz_up (rz_rf [] M0) eM1 (by decide)
  refine rr_aload_n pf_284_5 rfl ?_
  refine rr_getR pf_284_6 po_284 pg_9_13 rfl (ws_228 hW) (by decide) (wr_228_3 q2.1) ?_
  refine rr_bipush pf_284_9 (by decide) ?_
  refine vr_iald (j := 8) q2 pf_284_11 (ws_230 hW) (by omega) (by omega) (by decide) (fun x4 hx4 rx4 => ?_)
  rw [q2.2.2 230 (by decide)] at hx4
  rw [rr_at (M := M0) (i := 8) (by omega), hp0] at hx4
  refine rr_istore_n pf_284_12 (fun y => [.ref 228, .int (iI (((g : Nat) : Int))), .int (iI (i)), .int (iI (y)), px_jk, px_jk]) (Nat.le_of_ble_eq_true rfl) (fun _ => rfl) (fun y5 hy5 => ?_)
  have ry5 : rg y5 := hy5 ▸ rx4
  refine rr_iload_n pf_284_13 rfl ?_
  refine rr_cS1 pf_284_14 po_284 pc_9_228 (by decide) rfl (ct_R_isPane (by omega) (by unfold rg; omega)) ?_
  refine rr_ifb_eq 30 pf_284_17 (by decide) (fun c6 => ?_) (fun c6 => ?_)
  · exfalso; omega
  · refine rr_iload_n pf_284_20 rfl ?_
    refine rr_iload_n pf_284_21 rfl ?_
    refine rr_icmp_eq 30 pf_284_22 (by decide) (by unfold rg; omega) ry5 (fun c7 => ?_) (fun c7 => ?_)
    · exfalso; omega
    · refine rr_iload_n pf_284_25 rfl ?_
      refine rr_iconst pf_284_26 ?_
      refine rr_icmp_ge 32 pf_284_27 (by decide) hi0 (by unfold rg; omega) (fun c8 => ?_) (fun c8 => ?_)
      · refine rr_aload_n pf_284_32 rfl ?_
        refine rr_iload_n pf_284_33 rfl ?_
        obtain ⟨M9, ⟨kq10, pw_M9, pf_M9⟩, hcM9⟩ := ct_R_layWay (xs := xs) (L := L) (d := d) (g := g) (lw := lw) (by omega) hW q2.1 q2.2.1 (by rw [rr_q q2 (by decide)]; exact hρ) (lwR_q q2 (by decide) hlw) ((rq3 20 (by decide) (by decide)).trans hord) (by omega)
        have q10 := qk_trm q2 kq10 (by decide)
        rw [rr_q q2 (by decide)] at pw_M9
        have rq12 := rz_rq rq3 pf_M9
        refine rr_cV1 pf_284_34 po_284 pc_9_553 (ws_228 hW) po_285 (by decide) rfl hcM9 ?_
        
        refine rr_iload_n pf_284_37 rfl ?_
        refine rr_iconst pf_284_38 ?_
        refine rr_icmp_ne 49 pf_284_39 (by decide) hi0 (by unfold rg; omega) (fun c13 => ?_) (fun c13 => ?_)
        · refine rr_iconst pf_284_49 ?_
          refine rr_istore pf_284_50 (fun y => [.ref 228, .int (iI (((g : Nat) : Int))), .int (iI (i)), .int (iI (y5)), .int (iI (y)), px_jk]) (Nat.le_of_ble_eq_true rfl) (fun _ => rfl) (fun y14 hy14 => ?_)
          obtain ⟨n15, hn15, rfl⟩ : ∃ zz : Nat, zz = p0 ∧ y5 = ((zz : Nat) : Int) := ⟨p0, rfl, by omega⟩
          obtain ⟨n16, hn16, rfl⟩ : ∃ zz : Nat, zz = 0 ∧ y14 = ((zz : Nat) : Int) := ⟨0, rfl, by omega⟩
          refine lp_R_way1_52 (xs := xs) (L := L) (d := d) (by omega) hW hρ hlw hord hg hp0 hp16 hpg hi0 hi1 (fun p_17 k_18 v21 M19 q20 xrq_M19 xp_M19 xd_M19 x16_M19 => ?_) (fun _ _ h => h) _ n15 n16 _ M9 rfl q10 (rq12) (pw_M9) (by omega) (by omega) (by omega) (by rw [show n16 = 0 by omega, show n15 = p0 by omega]; rfl) (by rw [show n15 = p0 by omega]; omega)
          have hx16 := x16_M19
          have hxd := xd_M19
          refine rr_iload_n pf_284_107 rfl ?_
          refine rr_iret pf_284_108 pt_284 ⟨_, M19, rfl, rfl, q20, (by unfold sp_way; rw [hp0, show (((p0 : Nat) : Int)).toNat = p0 from Int.toNat_natCast _, show (((g : Nat) : Int)).toNat = g from Int.toNat_natCast _, if_pos (by omega), if_neg (by omega), if_pos (by omega), ← xp_M19]), (xrq_M19)⟩
        · refine rr_aload_n pf_284_42 rfl ?_
          refine rr_iload_n pf_284_43 rfl ?_
          refine rr_iload_n pf_284_44 rfl ?_
          obtain ⟨r24, M22, ⟨kq23, pv_M22⟩, hcM22⟩ := ct_R_leastOn (xs := xs) (L := L) (d := d) (p := p0) (g := g) (f := fun q => if q < 16 then wlv (sp_bk lw (rr_ M0)) g q else 0) (by omega) hW q10.1 q10.2.1 hp16 (by omega) hpg (fun q hq _ => by rw [if_pos hq]; exact pw_M9 q hq) (fun q => by split; (have := wlv_7 (bk_b lw (rr_ M0)) (p := q) (g := g) (by assumption) hg; omega); omega)
          rw [show ((p0 : Nat) : Int) = y5 by omega] at hcM22
          obtain rfl := qk_nil kq23
          refine rr_cV2 pf_284_45 po_284 pc_9_550 (ws_228 hW) po_286 (by decide) rfl hcM22 ?_
          refine rr_iret pf_284_48 pt_284 ⟨_, M9, rfl, rfl, q10, (by unfold sp_way; rw [hp0, show (((p0 : Nat) : Int)).toNat = p0 from Int.toNat_natCast _, show (((g : Nat) : Int)).toNat = g from Int.toNat_natCast _, if_pos (by omega), if_pos (by omega), wls_eq hp16 hg hpg]; rw [pv_M22]; exact lsF_congr 16 (fun q hq _ => if_pos hq)), (rq12)⟩
      · exfalso; omega
theorem ct_R_way0 {xs : Nat → Int} {L d : Nat} {sh : List (Nat × Nat)} {M0 : Nat → Nat → Int} (hd : 3 ≤ d) (hW : px_W0 <+: sh) (hF : px_Fx M0) (hG : px_RG sh M0)  {g i : Int} (hg0 : rg g) (hi0 : rg i) (hx : ¬ ((0 ≤ g ∧ g ≤ 15) ∧ g ≠ rr_ M0 8 ∧ -1 ≤ i)) : ∃ v M, (px_qk sh [228] M0 M ∧ (v = -1) ∧ (rz [] M0 M)) ∧ px_Cl xs L d 284 [.ref 228, .int (iI (g)), .int (iI (i))] (sh, M0) (some (.int (iI v))) (sh, M) := by
  obtain ⟨d, rfl⟩ : ∃ e, d = e + 1 := ⟨d - 1, by omega⟩
  have q0 : px_qk sh [228] M0 M0 := ⟨hF, hG, eo_rf⟩
  refine vc_i (Nat.le_of_ble_eq_true rfl) ?_
  show px_R xs L d 284 (0, [.ref 228, .int (iI (g)), .int (iI (i)), px_jk, px_jk, px_jk], [], (sh, M0)) (fun r h' => ∃ v M', r = some (.int (iI v)) ∧ h' = (sh, M') ∧ px_qk sh [228] M0 M' ∧ v = -1 ∧ rz [] M0 M')
  refine rr_aload_n pf_284_0 rfl ?_
  refine rr_iconst pf_284_1 ?_
  refine vr_putI hW q0 pf_284_2 po_284 pg_9_177 (Or.inl rfl) rfl (ws_228 hW) (by decide) (by unfold rg; omega) (by decide) (fun M1 eM1 q2 => ?_)
  have rq3 := rz_up (rz_rf [] M0) eM1 (by decide)
  refine rr_aload_n pf_284_5 rfl ?_
  refine rr_getR pf_284_6 po_284 pg_9_13 rfl (ws_228 hW) (by decide) (wr_228_3 q2.1) ?_
  refine rr_bipush pf_284_9 (by decide) ?_
  refine vr_iald (j := 8) q2 pf_284_11 (ws_230 hW) (by omega) (by omega) (by decide) (fun x4 hx4 rx4 => ?_)
  rw [q2.2.2 230 (by decide)] at hx4
  rw [rr_at (M := M0) (i := 8) (by omega)] at hx4
  refine rr_istore_n pf_284_12 (fun y => [.ref 228, .int (iI (g)), .int (iI (i)), .int (iI (y)), px_jk, px_jk]) (Nat.le_of_ble_eq_true rfl) (fun _ => rfl) (fun y5 hy5 => ?_)
  have ry5 : rg y5 := hy5 ▸ rx4
  refine rr_iload_n pf_284_13 rfl ?_
  refine rr_cS1 pf_284_14 po_284 pc_9_228 (by decide) rfl (ct_R_isPane (by omega) hg0) ?_
  refine rr_ifb_eq 30 pf_284_17 (by decide) (fun c6 => ?_) (fun c6 => ?_)
  · refine rr_iconst pf_284_30 ?_
    refine rr_iret pf_284_31 pt_284 ⟨_, M1, rfl, rfl, q2, (by rfl), (rq3)⟩
  · refine rr_iload_n pf_284_20 rfl ?_
    refine rr_iload_n pf_284_21 rfl ?_
    refine rr_icmp_eq 30 pf_284_22 (by decide) hg0 ry5 (fun c7 => ?_) (fun c7 => ?_)
    · refine rr_iconst pf_284_30 ?_
      refine rr_iret pf_284_31 pt_284 ⟨_, M1, rfl, rfl, q2, (by rfl), (rq3)⟩
    · refine rr_iload_n pf_284_25 rfl ?_
      refine rr_iconst pf_284_26 ?_
      refine rr_icmp_ge 32 pf_284_27 (by decide) hi0 (by unfold rg; omega) (fun c8 => ?_) (fun c8 => ?_)
      · exfalso; omega
      · refine rr_iconst pf_284_30 ?_
        refine rr_iret pf_284_31 pt_284 ⟨_, M1, rfl, rfl, q2, (by rfl), (rq3)⟩

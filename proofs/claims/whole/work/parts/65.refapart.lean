/-! panes that tell words apart -/
def opc (s : Nat) : Nat → Int
  | 0 => 0
  | k + 1 => opc s k + ((s : Nat) : Int) / 2 ^ k % 2
theorem opc_b (s : Nat) : ∀ k, 0 ≤ opc s k ∧ opc s k ≤ k := by
  intro k
  induction k with
  | zero => simp [opc]
  | succ k ih => have := tb_01 s k; simp only [opc]; omega
def ulC (lw : List sp_C) (ρ : Nat → Int) (v w p : Nat) : Bool := decide (sp_stain lw ρ v p ≠ sp_stain lw ρ w p ∨ (0 < sp_stain lw ρ v p ∧ ρ (69 + v) ≠ ρ (69 + w)))
theorem ulC_comm (lw : List sp_C) (ρ : Nat → Int) (v w p : Nat) : ulC lw ρ v w p = ulC lw ρ w v p := by
  unfold ulC
  exact decide_eq_decide.mpr (by omega)
def ulk (lw : List sp_C) (ρ : Nat → Int) (v w : Nat) : Nat → Nat
  | 0 => 0
  | p + 1 => ulk lw ρ v w p ||| (if ulC lw ρ v w p = true then 2 ^ p else 0)
theorem ulk_comm (lw : List sp_C) (ρ : Nat → Int) (v w : Nat) : ∀ p, ulk lw ρ v w p = ulk lw ρ w v p := by
  intro p
  induction p with
  | zero => rfl
  | succ p ih => simp only [ulk]; rw [ih, ulC_comm]
theorem ulk_b (lw : List sp_C) (ρ : Nat → Int) (v w : Nat) : ∀ p, ulk lw ρ v w p < 2 ^ p := by
  intro p
  induction p with
  | zero => simp [ulk]
  | succ p ih =>
    simp only [ulk]
    have h1 : (2 : Nat) ^ p < 2 ^ (p + 1) := Nat.pow_lt_pow_right (by decide) (by omega)
    refine Nat.or_lt_two_pow (by omega) ?_
    split
    · exact h1
    · omega
theorem ulk_16 (lw : List sp_C) (ρ : Nat → Int) (v w : Nat) {p : Nat} (hp : p ≤ 16) : ulk lw ρ v w p < 65536 := Nat.lt_of_lt_of_le (ulk_b lw ρ v w p) (Nat.pow_le_pow_right (n := 2) (by decide) hp)
def prR (v m : Nat) : List (Nat × Nat) := (List.range m).map (fun j => (v, v + 1 + j))
def prL (n : Nat) : Nat → List (Nat × Nat)
  | 0 => []
  | v + 1 => prL n v ++ prR v (n - 1 - v)
theorem prL_len : ∀ n, n < 9 → ∀ v, v < n → ∀ w, w < n → v < w → (prL n v).length + (w - v - 1) < 28 := by decide +kernel
theorem prR_s (v m : Nat) : prR v (m + 1) = prR v m ++ [(v, v + 1 + m)] := by unfold prR; rw [List.range_succ, List.map_append]; rfl
theorem prL_len2 : ∀ n, n < 9 → ∀ v, v < 9 → v ≤ n → (prL n v).length ≤ 28 := by decide +kernel
theorem prL_mem {n : Nat} : ∀ v, v ≤ n → ∀ a b, (a, b) ∈ prL n v ↔ a < v ∧ a < b ∧ b < n := by
  intro v
  induction v with
  | zero => intro _ a b; simp [prL]
  | succ v ih =>
    intro hv a b
    simp only [prL, List.mem_append]
    rw [ih (by omega)]
    unfold prR
    simp only [List.mem_map, List.mem_range, Prod.mk.injEq]
    constructor
    · rintro (⟨h1, h2, h3⟩ | ⟨j, hj, rfl, rfl⟩)
      · exact ⟨by omega, h2, h3⟩
      · exact ⟨by omega, by omega, by omega⟩
    · rintro ⟨h1, h2, h3⟩
      by_cases e : a < v
      · exact Or.inl ⟨e, h2, h3⟩
      · exact Or.inr ⟨b - a - 1, by omega, by omega, by omega⟩
def ulL (lw : List sp_C) (ρ : Nat → Int) (L : List (Nat × Nat)) : List Nat := L.map (fun x => ulk lw ρ x.1 x.2 16)
def hitL (L : List Nat) (s : Nat) : Bool := L.all (fun x => decide (s &&& x ≠ 0))
def mhR (g : Nat → Int) (L : List Nat) : Prop := ∀ k x, L[k]? = some x → g k = ((x : Nat) : Int)
theorem mhR_push {g g2 : Nat → Int} {L : List Nat} {x : Nat} (h : mhR g L) (hx : g2 L.length = ((x : Nat) : Int)) (hg : ∀ j, j < L.length → g2 j = g j) : mhR g2 (L ++ [x]) := by
  intro k y hy
  by_cases hk : k < L.length
  · rw [List.getElem?_append_left hk] at hy
    rw [hg k hk]
    exact h k y hy
  · rw [List.getElem?_append_right (by omega)] at hy
    by_cases e : k = L.length
    · rw [e, Nat.sub_self] at hy
      simp at hy
      rw [e, hx, hy]
    · rw [List.getElem?_eq_none (by simp; omega)] at hy
      cases hy
def apF (L : List Nat) : Nat → Int × Int
  | 0 => (-1, 100000000)
  | s + 1 => if opc s 16 < (apF L s).2 ∧ hitL L s = true then (((s : Nat) : Int), opc s 16) else apF L s
theorem apF_b (L : List Nat) : ∀ s, -1 ≤ (apF L s).1 ∧ (apF L s).1 ≤ s ∧ 0 ≤ (apF L s).2 ∧ (apF L s).2 ≤ 100000000 := by
  intro s
  induction s with
  | zero => simp [apF]
  | succ s ih =>
    have := opc_b s 16
    simp only [apF]
    split
    · dsimp only; omega
    · omega
def sp_apa (lw : List sp_C) (ρ : Nat → Int) (u : Int) : Int := if 0 ≤ u ∧ u ≤ 1 then (if (apF (ulL lw ρ (prL (ρ 0).toNat (ρ 0).toNat)) 65536).1 = -1 ∨ u = 1 then (apF (ulL lw ρ (prL (ρ 0).toNat (ρ 0).toNat)) 65536).1 else (apF (ulL lw ρ (prL (ρ 0).toNat (ρ 0).toNat)) 65536).2) else -1
theorem lp_R_ones_4 {xs : Nat → Int} {L d : Nat} {sh : List (Nat × Nat)}  (hW : px_W0 <+: sh) {M0 : Nat → Nat → Int}  {s : Nat} (hs : s < 65536)  {Q : Option Value → px_H → Prop} (kx : ∀ (o : Int) (k : Nat) (M : Nat → Nat → Int), px_qk sh [] M0 M → (o = opc s 16) → px_R xs L d 282 (24, [.int (iI (((s : Nat) : Int))), .int (iI (o)), .int (iI (((k : Nat) : Int)))], [], (sh, M)) Q)  : ∀ (mz : Nat) (o : Int) (k : Nat) (M : Nat → Nat → Int), 16 - k = mz → px_qk sh [] M0 M → (k ≤ 16) → (o = opc s k) → px_R xs L d 282 (4, [.int (iI (((s : Nat) : Int))), .int (iI (o)), .int (iI (((k : Nat) : Int)))], [], (sh, M)) Q := by
  intro mz
  induction mz using Nat.strongRecOn with
  | _ mz ih =>
    intro o k M hm hq hk ho
    have hob := opc_b s k
    have h01 := tb_01 s k
    refine rr_iload_n pf_282_4 rfl ?_
    refine rr_bipush pf_282_5 (by decide) ?_
    refine rr_icmp_ge 24 pf_282_7 (by decide) (by unfold rg; omega) (by unfold rg; omega) (fun c1 => ?_) (fun c1 => ?_)
    · exact kx o k M hq (by rw [ho, show k = 16 by omega])
    · refine rr_iload_n pf_282_10 rfl ?_
      refine rr_iload_n pf_282_11 rfl ?_
      refine rr_iload_n pf_282_12 rfl ?_
      refine rr_ishr (((s : Nat) : Int) / 2 ^ k) pf_282_13 (iI_shr (by unfold rg; omega) (by omega)) ?_
      refine rr_iconst pf_282_14 ?_
      refine rr_iand (((s : Nat) : Int) / 2 ^ k % 2) pf_282_15 iI_m1 ?_
      refine rr_iadd pf_282_16 ?_
      refine rr_istore_n pf_282_17 (fun y => [.int (iI (((s : Nat) : Int))), .int (iI (y)), .int (iI (((k : Nat) : Int)))]) (Nat.le_of_ble_eq_true rfl) (fun _ => rfl) (fun y2 hy2 => ?_)
      refine rr_iinc pf_282_18 rfl (fun y => [.int (iI (((s : Nat) : Int))), .int (iI (y2)), .int (iI (y))]) (fun _ => rfl) (fun y3 hy3 => ?_)
      refine rr_goto 4 pf_282_21 (by decide) ?_
      obtain ⟨nz4, hnz4, rfl⟩ : ∃ zz : Nat, zz = 1 + k ∧ y3 = ((zz : Nat) : Int) := ⟨1 + k, rfl, by omega⟩
      exact ih _ (by omega) y2 nz4 M rfl hq (by omega) (by rw [show nz4 = k + 1 by omega, opc]; omega)
theorem ct_R_ones {xs : Nat → Int} {L d : Nat} {sh : List (Nat × Nat)} {M0 : Nat → Nat → Int} (hd : 1 ≤ d) (hW : px_W0 <+: sh) (hF : px_Fx M0) (hG : px_RG sh M0)  {s : Nat} (hs : s < 65536) : ∃ v M, (px_qk sh [] M0 M ∧ (v = opc s 16)) ∧ px_Cl xs L d 282 [.int (iI (((s : Nat) : Int)))] (sh, M0) (some (.int (iI v))) (sh, M) := by
  obtain ⟨d, rfl⟩ : ∃ e, d = e + 1 := ⟨d - 1, by omega⟩
  have q0 : px_qk sh [] M0 M0 := ⟨hF, hG, eo_rf⟩
  refine vc_i (Nat.le_of_ble_eq_true rfl) ?_
  show px_R xs L d 282 (0, [.int (iI (((s : Nat) : Int))), px_jk, px_jk], [], (sh, M0)) (fun r h' => ∃ v M', r = some (.int (iI v)) ∧ h' = (sh, M') ∧ px_qk sh [] M0 M' ∧ v = opc s 16)
  refine rr_iconst pf_282_0 ?_
  refine rr_istore_n pf_282_1 (fun y => [.int (iI (((s : Nat) : Int))), .int (iI (y)), px_jk]) (Nat.le_of_ble_eq_true rfl) (fun _ => rfl) (fun y1 hy1 => ?_)
  refine rr_iconst pf_282_2 ?_
  refine rr_istore_n pf_282_3 (fun y => [.int (iI (((s : Nat) : Int))), .int (iI (y1)), .int (iI (y))]) (Nat.le_of_ble_eq_true rfl) (fun _ => rfl) (fun y2 hy2 => ?_)
  obtain ⟨nz3, hnz3, rfl⟩ : ∃ zz : Nat, zz = 0 ∧ y2 = ((zz : Nat) : Int) := ⟨0, rfl, by omega⟩
  refine lp_R_ones_4 (xs := xs) (L := L) (d := d)  hW hs (fun o_4 k_5  M6 q7 xo_M6 => ?_) _ y1 nz3 M0 rfl q0 (by omega) (by rw [show nz3 = 0 by omega]; exact hy1)
  refine rr_iload_n pf_282_24 rfl ?_
  refine rr_iret pf_282_25 pt_282 ⟨_, M6, rfl, rfl, q7, (xo_M6)⟩
theorem lp_R_unlike_5 {xs : Nat → Int} {L d : Nat} {sh : List (Nat × Nat)}  (hW : px_W0 <+: sh) {M0 : Nat → Nat → Int}  (hρ : sp_ok (rr_ M0)) {lw : List sp_C} {n : Nat} (hn : rr_ M0 0 = ((n : Nat) : Int)) (hn8 : n ≤ 8) (hall : ∀ j, j < 16 * n → M0 253 j = sp_stain lw (rr_ M0) (j / 16) (j % 16)) {a b : Nat} (hA : a < n) (hB : b < n)  {Q : Option Value → px_H → Prop} (kx : ∀ (u : Nat) (p : Nat) (v5 : Value) (v6 : Value) (M : Nat → Nat → Int), px_qk sh [] M0 M → (u = ulk lw (rr_ M0) a b 16) → px_R xs L d 281 (90, [.ref 228, .int (iI (((a : Nat) : Int))), .int (iI (((b : Nat) : Int))), .int (iI (((u : Nat) : Int))), .int (iI (((p : Nat) : Int))), v5, v6], [], (sh, M)) Q)  : ∀ (mz : Nat) (u : Nat) (p : Nat) (v5 : Value) (v6 : Value) (M : Nat → Nat → Int), 16 - p = mz → px_qk sh [] M0 M → (p ≤ 16) → (u = ulk lw (rr_ M0) a b p) → px_R xs L d 281 (5, [.ref 228, .int (iI (((a : Nat) : Int))), .int (iI (((b : Nat) : Int))), .int (iI (((u : Nat) : Int))), .int (iI (((p : Nat) : Int))), v5, v6], [], (sh, M)) Q := by
  intro mz
  induction mz using Nat.strongRecOn with
  | _ mz ih =>
    intro u p v5 v6 M hm hq hp hu
    have hub := fun (h : p ≤ 16) => ulk_16 lw (rr_ M0) a b h
    have hpp := fun (h : p < 16) => (show 2 ^ p ≤ 2 ^ 15 from Nat.pow_le_pow_right (by decide) (by omega))
    have hsv := sp_stain_b lw (rr_ M0) a p
    refine rr_iload pf_281_5 rfl ?_
    refine rr_bipush pf_281_7 (by decide) ?_
    refine rr_icmp_ge 90 pf_281_9 (by decide) (by unfold rg; omega) (by unfold rg; omega) (fun c1 => ?_) (fun c1 => ?_)
    · exact kx u p _ _ M hq (by rw [hu, show p = 16 by omega])
    · have hub := hub hp
      have hpp := hpp (by omega)
      refine rr_aload_n pf_281_12 rfl ?_
      refine rr_getR pf_281_13 po_281 pg_9_128 rfl (ws_228 hW) (by decide) (wr_228_45 hq.1) ?_
      refine rr_bipush pf_281_16 (by decide) ?_
      refine rr_iload_n pf_281_18 rfl ?_
      refine rr_imul pf_281_19 ?_
      refine rr_iload pf_281_20 rfl ?_
      refine rr_iadd pf_281_22 ?_
      refine vr_iald (j := p + 16 * a) hq pf_281_23 (ws_253 hW) (by omega) (by omega) (by decide) (fun x2 hx2 rx2 => ?_)
      rw [hq.2.2 253 (by decide)] at hx2
      rw [hall _ (by omega), show (p + 16 * a) / 16 = a by omega, show (p + 16 * a) % 16 = p by omega] at hx2
      refine rr_istore pf_281_24 (fun y => [.ref 228, .int (iI (((a : Nat) : Int))), .int (iI (((b : Nat) : Int))), .int (iI (((u : Nat) : Int))), .int (iI (((p : Nat) : Int))), .int (iI (y)), v6]) (Nat.le_of_ble_eq_true rfl) (fun _ => rfl) (fun y3 hy3 => ?_)
      have ry3 : rg y3 := hy3 ▸ rx2
      refine rr_aload_n pf_281_26 rfl ?_
      refine rr_getR pf_281_27 po_281 pg_9_128 rfl (ws_228 hW) (by decide) (wr_228_45 hq.1) ?_
      refine rr_bipush pf_281_30 (by decide) ?_
      refine rr_iload_n pf_281_32 rfl ?_
      refine rr_imul pf_281_33 ?_
      refine rr_iload pf_281_34 rfl ?_
      refine rr_iadd pf_281_36 ?_
      refine vr_iald (j := p + 16 * b) hq pf_281_37 (ws_253 hW) (by omega) (by omega) (by decide) (fun x4 hx4 rx4 => ?_)
      rw [hq.2.2 253 (by decide)] at hx4
      rw [hall _ (by omega), show (p + 16 * b) / 16 = b by omega, show (p + 16 * b) % 16 = p by omega] at hx4
      refine rr_istore pf_281_38 (fun y => [.ref 228, .int (iI (((a : Nat) : Int))), .int (iI (((b : Nat) : Int))), .int (iI (((u : Nat) : Int))), .int (iI (((p : Nat) : Int))), .int (iI (y3)), .int (iI (y))]) (Nat.le_of_ble_eq_true rfl) (fun _ => rfl) (fun y5 hy5 => ?_)
      have ry5 : rg y5 := hy5 ▸ rx4
      refine rr_iload_n pf_281_40 rfl ?_
      refine rr_iload pf_281_41 rfl ?_
      refine rr_iload pf_281_43 rfl ?_
      refine rr_icmp_ne 74 pf_281_45 (by decide) ry3 ry5 (fun c6 => ?_) (fun c6 => ?_)
      · have hC : ulC lw (rr_ M0) a b p = true := decide_eq_true (by omega)
        refine rr_iconst pf_281_74 ?_
        refine rr_iload pf_281_75 rfl ?_
        refine rr_ishl (((2 ^ p : Nat) : Int)) pf_281_77 (iI_shl1 p (by omega)) ?_
        refine rr_goto 82 pf_281_78 (by decide) ?_
        refine rr_ior (((u ||| 2 ^ p : Nat) : Int)) pf_281_82 (iI_or (by omega) (by omega)) ?_
        refine rr_istore_n pf_281_83 (fun y => [.ref 228, .int (iI (((a : Nat) : Int))), .int (iI (((b : Nat) : Int))), .int (iI (y)), .int (iI (((p : Nat) : Int))), .int (iI (y3)), .int (iI (y5))]) (Nat.le_of_ble_eq_true rfl) (fun _ => rfl) (fun y7 hy7 => ?_)
        refine rr_iinc pf_281_84 rfl (fun y => [.ref 228, .int (iI (((a : Nat) : Int))), .int (iI (((b : Nat) : Int))), .int (iI (y7)), .int (iI (y)), .int (iI (y3)), .int (iI (y5))]) (fun _ => rfl) (fun y8 hy8 => ?_)
        refine rr_goto 5 pf_281_87 (by decide) ?_
        obtain ⟨nz9, hnz9, rfl⟩ : ∃ zz : Nat, zz = y7.toNat ∧ y7 = ((zz : Nat) : Int) := ⟨y7.toNat, rfl, by omega⟩
        obtain ⟨nz10, hnz10, rfl⟩ : ∃ zz : Nat, zz = 1 + p ∧ y8 = ((zz : Nat) : Int) := ⟨1 + p, rfl, by omega⟩
        exact ih _ (by omega) nz9 nz10 _ _ M rfl hq (by omega) (by rw [show nz10 = p + 1 by omega, ulk, ← hu, if_pos hC]; omega)
      · refine rr_iload pf_281_48 rfl ?_
        refine rr_if_le 81 pf_281_50 (by decide) ry3 (fun c11 => ?_) (fun c11 => ?_)
        · have hC : ¬ ulC lw (rr_ M0) a b p = true := fun z => by have := of_decide_eq_true z; omega
          refine rr_iconst pf_281_81 ?_
          refine rr_ior (((u : Nat) : Int)) pf_281_82 (by rw [show (0 : Int) = ((0 : Nat) : Int) from rfl, iI_or (by omega) (by omega), Nat.or_zero]) ?_
          refine rr_istore_n pf_281_83 (fun y => [.ref 228, .int (iI (((a : Nat) : Int))), .int (iI (((b : Nat) : Int))), .int (iI (y)), .int (iI (((p : Nat) : Int))), .int (iI (y3)), .int (iI (y5))]) (Nat.le_of_ble_eq_true rfl) (fun _ => rfl) (fun y12 hy12 => ?_)
          refine rr_iinc pf_281_84 rfl (fun y => [.ref 228, .int (iI (((a : Nat) : Int))), .int (iI (((b : Nat) : Int))), .int (iI (y12)), .int (iI (y)), .int (iI (y3)), .int (iI (y5))]) (fun _ => rfl) (fun y13 hy13 => ?_)
          refine rr_goto 5 pf_281_87 (by decide) ?_
          obtain ⟨nz14, hnz14, rfl⟩ : ∃ zz : Nat, zz = u ∧ y12 = ((zz : Nat) : Int) := ⟨u, rfl, by omega⟩
          obtain ⟨nz15, hnz15, rfl⟩ : ∃ zz : Nat, zz = 1 + p ∧ y13 = ((zz : Nat) : Int) := ⟨1 + p, rfl, by omega⟩
          exact ih _ (by omega) nz14 nz15 _ _ M rfl hq (by omega) (by rw [show nz15 = p + 1 by omega, ulk, ← hu, if_neg hC, Nat.or_zero]; omega)
        · refine rr_aload_n pf_281_53 rfl ?_
          refine rr_getR pf_281_54 po_281 pg_9_13 rfl (ws_228 hW) (by decide) (wr_228_3 hq.1) ?_
          refine rr_bipush pf_281_57 (by decide) ?_
          refine rr_iload_n pf_281_59 rfl ?_
          refine rr_iadd pf_281_60 ?_
          refine vr_iald (j := 69 + a) hq pf_281_61 (ws_230 hW) (by omega) (by omega) (by decide) (fun x16 hx16 rx16 => ?_)
          rw [hq.2.2 230 (by decide)] at hx16
          rw [rr_at (M := M0) (i := 69 + a) (by omega)] at hx16
          refine rr_aload_n pf_281_62 rfl ?_
          refine rr_getR pf_281_63 po_281 pg_9_13 rfl (ws_228 hW) (by decide) (wr_228_3 hq.1) ?_
          refine rr_bipush pf_281_66 (by decide) ?_
          refine rr_iload_n pf_281_68 rfl ?_
          refine rr_iadd pf_281_69 ?_
          refine vr_iald (j := 69 + b) hq pf_281_70 (ws_230 hW) (by omega) (by omega) (by decide) (fun x17 hx17 rx17 => ?_)
          rw [hq.2.2 230 (by decide)] at hx17
          rw [rr_at (M := M0) (i := 69 + b) (by omega)] at hx17
          refine rr_icmp_eq 81 pf_281_71 (by decide) rx16 rx17 (fun c18 => ?_) (fun c18 => ?_)
          · have hC : ¬ ulC lw (rr_ M0) a b p = true := fun z => by have := of_decide_eq_true z; omega
            refine rr_iconst pf_281_81 ?_
            refine rr_ior (((u : Nat) : Int)) pf_281_82 (by rw [show (0 : Int) = ((0 : Nat) : Int) from rfl, iI_or (by omega) (by omega), Nat.or_zero]) ?_
            refine rr_istore_n pf_281_83 (fun y => [.ref 228, .int (iI (((a : Nat) : Int))), .int (iI (((b : Nat) : Int))), .int (iI (y)), .int (iI (((p : Nat) : Int))), .int (iI (y3)), .int (iI (y5))]) (Nat.le_of_ble_eq_true rfl) (fun _ => rfl) (fun y19 hy19 => ?_)
            refine rr_iinc pf_281_84 rfl (fun y => [.ref 228, .int (iI (((a : Nat) : Int))), .int (iI (((b : Nat) : Int))), .int (iI (y19)), .int (iI (y)), .int (iI (y3)), .int (iI (y5))]) (fun _ => rfl) (fun y20 hy20 => ?_)
            refine rr_goto 5 pf_281_87 (by decide) ?_
            obtain ⟨nz21, hnz21, rfl⟩ : ∃ zz : Nat, zz = u ∧ y19 = ((zz : Nat) : Int) := ⟨u, rfl, by omega⟩
            obtain ⟨nz22, hnz22, rfl⟩ : ∃ zz : Nat, zz = 1 + p ∧ y20 = ((zz : Nat) : Int) := ⟨1 + p, rfl, by omega⟩
            exact ih _ (by omega) nz21 nz22 _ _ M rfl hq (by omega) (by rw [show nz22 = p + 1 by omega, ulk, ← hu, if_neg hC, Nat.or_zero]; omega)
          · have hC : ulC lw (rr_ M0) a b p = true := decide_eq_true (by omega)
            refine rr_iconst pf_281_74 ?_
            refine rr_iload pf_281_75 rfl ?_
            refine rr_ishl (((2 ^ p : Nat) : Int)) pf_281_77 (iI_shl1 p (by omega)) ?_
            refine rr_goto 82 pf_281_78 (by decide) ?_
            refine rr_ior (((u ||| 2 ^ p : Nat) : Int)) pf_281_82 (iI_or (by omega) (by omega)) ?_
            refine rr_istore_n pf_281_83 (fun y => [.ref 228, .int (iI (((a : Nat) : Int))), .int (iI (((b : Nat) : Int))), .int (iI (y)), .int (iI (((p : Nat) : Int))), .int (iI (y3)), .int (iI (y5))]) (Nat.le_of_ble_eq_true rfl) (fun _ => rfl) (fun y23 hy23 => ?_)
            refine rr_iinc pf_281_84 rfl (fun y => [.ref 228, .int (iI (((a : Nat) : Int))), .int (iI (((b : Nat) : Int))), .int (iI (y23)), .int (iI (y)), .int (iI (y3)), .int (iI (y5))]) (fun _ => rfl) (fun y24 hy24 => ?_)
            refine rr_goto 5 pf_281_87 (by decide) ?_
            obtain ⟨nz25, hnz25, rfl⟩ : ∃ zz : Nat, zz = y23.toNat ∧ y23 = ((zz : Nat) : Int) := ⟨y23.toNat, rfl, by omega⟩
            obtain ⟨nz26, hnz26, rfl⟩ : ∃ zz : Nat, zz = 1 + p ∧ y24 = ((zz : Nat) : Int) := ⟨1 + p, rfl, by omega⟩
            exact ih _ (by omega) nz25 nz26 _ _ M rfl hq (by omega) (by rw [show nz26 = p + 1 by omega, ulk, ← hu, if_pos hC]; omega)
theorem ct_R_unlike {xs : Nat → Int} {L d : Nat} {sh : List (Nat × Nat)} {M0 : Nat → Nat → Int} (hd : 1 ≤ d) (hW : px_W0 <+: sh) (hF : px_Fx M0) (hG : px_RG sh M0)  (hρ : sp_ok (rr_ M0)) {lw : List sp_C} {n : Nat} (hn : rr_ M0 0 = ((n : Nat) : Int)) (hn8 : n ≤ 8) (hall : ∀ j, j < 16 * n → M0 253 j = sp_stain lw (rr_ M0) (j / 16) (j % 16)) {a b : Nat} (hA : a < n) (hB : b < n) : ∃ v M, (px_qk sh [] M0 M ∧ (v = ((ulk lw (rr_ M0) a b 16 : Nat) : Int))) ∧ px_Cl xs L d 281 [.ref 228, .int (iI (((a : Nat) : Int))), .int (iI (((b : Nat) : Int)))] (sh, M0) (some (.int (iI v))) (sh, M) := by
  obtain ⟨d, rfl⟩ : ∃ e, d = e + 1 := ⟨d - 1, by omega⟩
  have q0 : px_qk sh [] M0 M0 := ⟨hF, hG, eo_rf⟩
  refine vc_i (Nat.le_of_ble_eq_true rfl) ?_
  show px_R xs L d 281 (0, [.ref 228, .int (iI (((a : Nat) : Int))), .int (iI (((b : Nat) : Int))), px_jk, px_jk, px_jk, px_jk], [], (sh, M0)) (fun r h' => ∃ v M', r = some (.int (iI v)) ∧ h' = (sh, M') ∧ px_qk sh [] M0 M' ∧ v = ((ulk lw (rr_ M0) a b 16 : Nat) : Int))
  refine rr_iconst pf_281_0 ?_
  refine rr_istore_n pf_281_1 (fun y => [.ref 228, .int (iI (((a : Nat) : Int))), .int (iI (((b : Nat) : Int))), .int (iI (y)), px_jk, px_jk, px_jk]) (Nat.le_of_ble_eq_true rfl) (fun _ => rfl) (fun y1 hy1 => ?_)
  refine rr_iconst pf_281_2 ?_
  refine rr_istore pf_281_3 (fun y => [.ref 228, .int (iI (((a : Nat) : Int))), .int (iI (((b : Nat) : Int))), .int (iI (y1)), .int (iI (y)), px_jk, px_jk]) (Nat.le_of_ble_eq_true rfl) (fun _ => rfl) (fun y2 hy2 => ?_)
  obtain ⟨nz3, hnz3, rfl⟩ : ∃ zz : Nat, zz = 0 ∧ y1 = ((zz : Nat) : Int) := ⟨0, rfl, by omega⟩
  obtain ⟨nz4, hnz4, rfl⟩ : ∃ zz : Nat, zz = 0 ∧ y2 = ((zz : Nat) : Int) := ⟨0, rfl, by omega⟩
  refine lp_R_unlike_5 (xs := xs) (L := L) (d := d)  hW hρ hn hn8 hall hA hB (fun u_5 p_6 v9 v10 M7 q8 xu_M7 => ?_) _ nz3 nz4 _ _ M0 rfl q0 (by omega) (by rw [show nz3 = 0 by omega, show nz4 = 0 by omega]; rfl)
  refine rr_iload_n pf_281_90 rfl ?_
  refine rr_iret pf_281_91 pt_281 ⟨_, M7, rfl, rfl, q8, (by rw [← xu_M7])⟩
theorem lp_R_apart1_40 {xs : Nat → Int} {L d : Nat} {sh : List (Nat × Nat)} (hd : 9 ≤ d) (hW : px_W0 <+: sh) {M0 : Nat → Nat → Int}  (hρ : sp_ok (rr_ M0)) {lw : List sp_C} {n : Nat} (hn : rr_ M0 0 = ((n : Nat) : Int)) (hn8 : n ≤ 8) {u : Int} {a : Nat} (ha : a < n) {Q : Option Value → px_H → Prop} (kx : ∀ (c : Nat) (b : Nat) (v5 : Value) (v6 : Value) (v7 : Value) (M : Nat → Nat → Int), px_qk sh [228, 246, 248, 253, 258] M0 M → (rz [] M0 M) → (∀ j, j < 16 * n → M 253 j = sp_stain lw (rr_ M0) (j / 16) (j % 16)) → (c = (prL n (a + 1)).length) → (mhR (M 258) (ulL lw (rr_ M0) (prL n (a + 1)))) → px_R xs L d 280 (73, [.ref 228, .int (iI (u)), .int (iI (((c : Nat) : Int))), .int (iI (((a : Nat) : Int))), .int (iI (((b : Nat) : Int))), v5, v6, v7], [], (sh, M)) Q)  : ∀ (mz : Nat) (c : Nat) (b : Nat) (v5 : Value) (v6 : Value) (v7 : Value) (M : Nat → Nat → Int), 9 - b = mz → px_qk sh [228, 246, 248, 253, 258] M0 M → (rz [] M0 M) → (∀ j, j < 16 * n → M 253 j = sp_stain lw (rr_ M0) (j / 16) (j % 16)) → (a < b ∧ b ≤ n ∨ b = a + 1) → (c = (prL n a).length + (b - a - 1)) → (mhR (M 258) (ulL lw (rr_ M0) (prL n a ++ prR a (b - a - 1)))) → px_R xs L d 280 (40, [.ref 228, .int (iI (u)), .int (iI (((c : Nat) : Int))), .int (iI (((a : Nat) : Int))), .int (iI (((b : Nat) : Int))), v5, v6, v7], [], (sh, M)) Q := by
  intro mz
  induction mz using Nat.strongRecOn with
  | _ mz ih =>
    intro c b v5 v6 v7 M hm hq hrq hAL hb hc hm
    have hu16 := ulk_16 lw (rr_ M0) a b (Nat.le_refl 16)
    refine rr_iload pf_280_40 rfl ?_
    refine rr_aload_n pf_280_42 rfl ?_
    refine rr_getR pf_280_43 po_280 pg_9_13 rfl (ws_228 hW) (by decide) (wr_228_3 hq.1) ?_
    refine rr_iconst pf_280_46 ?_
    refine vr_iald (j := 0) hq pf_280_47 (ws_230 hW) (by omega) (by omega) (by decide) (fun x1 hx1 rx1 => ?_)
    rw [hq.2.2 230 (by decide)] at hx1
    rw [rr_at (M := M0) (i := 0) (by omega), hn] at hx1
    refine rr_icmp_ge 73 pf_280_48 (by decide) (by unfold rg; omega) rx1 (fun c2 => ?_) (fun c2 => ?_)
    · exact kx c b _ _ _ M hq (hrq) (hAL) (by simp only [prL, List.length_append]; rw [show (prR a (n - 1 - a)).length = n - 1 - a by simp [prR]]; omega) (by simp only [prL]; rw [show n - 1 - a = b - a - 1 by omega]; exact hm)
    · have hpl := prL_len n (by omega) a (by omega) b (by omega) (by omega)
      refine rr_aload_n pf_280_51 rfl ?_
      refine rr_getR pf_280_52 po_280 pg_9_143 rfl (ws_228 hW) (by decide) (wr_228_50 hq.1) ?_
      refine rr_iload_n pf_280_55 rfl ?_
      refine rr_aload_n pf_280_56 rfl ?_
      refine rr_iload_n pf_280_57 rfl ?_
      refine rr_iload pf_280_58 rfl ?_
      obtain ⟨r5, M3, ⟨kq4, pv_M3⟩, hcM3⟩ := ct_R_unlike (xs := xs) (L := L) (d := d) (a := a) (b := b) (lw := lw) (n := n) (by omega) hW hq.1 hq.2.1 (by rw [rr_q hq (by decide)]; exact hρ) (by rw [rr_q hq (by decide)]; exact hn) hn8 (by rw [rr_q hq (by decide)]; exact hAL) (by omega) (by omega)
      obtain rfl := qk_nil kq4
      rw [rr_q hq (by decide)] at pv_M3
      refine rr_cV2 pf_280_60 po_280 pc_9_540 (ws_228 hW) po_281 (by decide) rfl hcM3 ?_
      refine vr_iast (j := c) hW hq pf_280_63 (ws_258 hW) (by omega) (by omega) (by decide) (by unfold rg; omega) (by decide) (fun M6 eM6 q7 => ?_)
      have rq8 := rz_ne hrq eM6 (by decide)
      refine rr_iinc pf_280_64 rfl (fun y => [.ref 228, .int (iI (u)), .int (iI (y)), .int (iI (((a : Nat) : Int))), .int (iI (((b : Nat) : Int))), v5, v6, v7]) (fun _ => rfl) (fun y9 hy9 => ?_)
      refine rr_iinc pf_280_67 rfl (fun y => [.ref 228, .int (iI (u)), .int (iI (y9)), .int (iI (((a : Nat) : Int))), .int (iI (y)), v5, v6, v7]) (fun _ => rfl) (fun y10 hy10 => ?_)
      refine rr_goto 40 pf_280_70 (by decide) ?_
      obtain ⟨nz11, hnz11, rfl⟩ : ∃ zz : Nat, zz = 1 + c ∧ y9 = ((zz : Nat) : Int) := ⟨1 + c, rfl, by omega⟩
      obtain ⟨nz12, hnz12, rfl⟩ : ∃ zz : Nat, zz = 1 + b ∧ y10 = ((zz : Nat) : Int) := ⟨1 + b, rfl, by omega⟩
      exact ih _ (by omega) nz11 nz12 _ _ _ M6 rfl q7 (rq8) (by intro j hj; rw [eM6, ask_ne (by decide)]; exact hAL j hj) (by omega) (by omega) (by
                  rw [show nz12 - a - 1 = (b - a - 1) + 1 by omega, prR_s, ← List.append_assoc]
                  unfold ulL
                  rw [List.map_append]
                  refine mhR_push hm ?_ ?_
                  · rw [List.length_map, List.length_append, show (prR a (b - a - 1)).length = b - a - 1 by simp [prR], ← hc, eM6, up_s, pv_M3]; simp only [show a + 1 + (b - a - 1) = b by omega]
                  · intro j hj; rw [List.length_map, List.length_append, show (prR a (b - a - 1)).length = b - a - 1 by simp [prR], ← hc] at hj; rw [eM6, up_ne (by omega)])
theorem lp_R_apart1_25 {xs : Nat → Int} {L d : Nat} {sh : List (Nat × Nat)} (hd : 9 ≤ d) (hW : px_W0 <+: sh) {M0 : Nat → Nat → Int}  (hρ : sp_ok (rr_ M0)) {lw : List sp_C} {n : Nat} (hn : rr_ M0 0 = ((n : Nat) : Int)) (hn8 : n ≤ 8) {u : Int}  {Q : Option Value → px_H → Prop} (kx : ∀ (c : Nat) (a : Nat) (v4 : Value) (v5 : Value) (v6 : Value) (v7 : Value) (M : Nat → Nat → Int), px_qk sh [228, 246, 248, 253, 258] M0 M → (rz [] M0 M) → (c = (prL n n).length) → (mhR (M 258) (ulL lw (rr_ M0) (prL n n))) → px_R xs L d 280 (79, [.ref 228, .int (iI (u)), .int (iI (((c : Nat) : Int))), .int (iI (((a : Nat) : Int))), v4, v5, v6, v7], [], (sh, M)) Q)  : ∀ (mz : Nat) (c : Nat) (a : Nat) (v4 : Value) (v5 : Value) (v6 : Value) (v7 : Value) (M : Nat → Nat → Int), 9 - a = mz → px_qk sh [228, 246, 248, 253, 258] M0 M → (rz [] M0 M) → (∀ j, j < 16 * n → M 253 j = sp_stain lw (rr_ M0) (j / 16) (j % 16)) → (a ≤ n) → (c = (prL n a).length) → (mhR (M 258) (ulL lw (rr_ M0) (prL n a))) → px_R xs L d 280 (25, [.ref 228, .int (iI (u)), .int (iI (((c : Nat) : Int))), .int (iI (((a : Nat) : Int))), v4, v5, v6, v7], [], (sh, M)) Q := by
  intro mz
  induction mz using Nat.strongRecOn with
  | _ mz ih =>
    intro c a v4 v5 v6 v7 M hm hq hrq hAL ha hc hm
    refine rr_iload_n pf_280_25 rfl ?_
    refine rr_aload_n pf_280_26 rfl ?_
    refine rr_getR pf_280_27 po_280 pg_9_13 rfl (ws_228 hW) (by decide) (wr_228_3 hq.1) ?_
    refine rr_iconst pf_280_30 ?_
    refine vr_iald (j := 0) hq pf_280_31 (ws_230 hW) (by omega) (by omega) (by decide) (fun x1 hx1 rx1 => ?_)
    rw [hq.2.2 230 (by decide)] at hx1
    rw [rr_at (M := M0) (i := 0) (by omega), hn] at hx1
    refine rr_icmp_ge 79 pf_280_32 (by decide) (by unfold rg; omega) rx1 (fun c2 => ?_) (fun c2 => ?_)
    · exact kx c a _ _ _ _ M hq (hrq) (by rw [hc, show a = n by omega]) (by
                  have e : a = n := by omega
                  rw [e] at hm; exact hm)
    · refine rr_iload_n pf_280_35 rfl ?_
      refine rr_iconst pf_280_36 ?_
      refine rr_iadd pf_280_37 ?_
      refine rr_istore pf_280_38 (fun y => [.ref 228, .int (iI (u)), .int (iI (((c : Nat) : Int))), .int (iI (((a : Nat) : Int))), .int (iI (y)), v5, v6, v7]) (Nat.le_of_ble_eq_true rfl) (fun _ => rfl) (fun y3 hy3 => ?_)
      obtain ⟨nz4, hnz4, rfl⟩ : ∃ zz : Nat, zz = 1 + a ∧ y3 = ((zz : Nat) : Int) := ⟨1 + a, rfl, by omega⟩
      refine lp_R_apart1_40 (xs := xs) (L := L) (d := d) (by omega) hW hρ hn hn8 (by omega) (fun c_5 b_6 v9 v10 v11 M7 q8 xrq_M7 xAL_M7 xc_M7 xm_M7 => ?_) _ c nz4 _ _ _ M rfl hq (hrq) (hAL) (by omega) (by omega) (by rw [show nz4 - a - 1 = 0 by omega]; simpa [prR] using hm)
      refine rr_iinc pf_280_73 rfl (fun y => [.ref 228, .int (iI (u)), .int (iI (((c_5 : Nat) : Int))), .int (iI (y)), .int (iI (((b_6 : Nat) : Int))), v9, v10, v11]) (fun _ => rfl) (fun y12 hy12 => ?_)
      refine rr_goto 25 pf_280_76 (by decide) ?_
      obtain ⟨nz13, hnz13, rfl⟩ : ∃ zz : Nat, zz = 1 + a ∧ y12 = ((zz : Nat) : Int) := ⟨1 + a, rfl, by omega⟩
      exact ih _ (by omega) c_5 nz13 _ _ _ _ M7 rfl q8 (xrq_M7) (xAL_M7) (by omega) (by rw [show nz13 = a + 1 by omega]; exact xc_M7) (by rw [show nz13 = a + 1 by omega]; exact xm_M7)
theorem lp_R_apart1_116 {xs : Nat → Int} {L d : Nat} {sh : List (Nat × Nat)} (hd : 9 ≤ d) (hW : px_W0 <+: sh) {M0 : Nat → Nat → Int}  (hρ : sp_ok (rr_ M0)) {lw : List sp_C} {n : Nat} (hn : rr_ M0 0 = ((n : Nat) : Int)) (hn8 : n ≤ 8) {u : Int} {c : Nat} (hc : c = (prL n n).length) (hc28 : c ≤ 28) {le its : Int} {s : Nat} (hs : s < 65536) {Q : Option Value → px_H → Prop} (kx : ∀ (so : Int) (k : Nat) (M : Nat → Nat → Int), px_qk sh [228, 246, 248, 253, 258] M0 M → (rz [] M0 M) → (so = 1 ↔ (opc s 16 < le ∧ hitL (ulL lw (rr_ M0) (prL n n)) s = true)) → (so = 0 ∨ so = 1) → (mhR (M 258) (ulL lw (rr_ M0) (prL n n))) → px_R xs L d 280 (153, [.ref 228, .int (iI (u)), .int (iI (((c : Nat) : Int))), .int (iI (le)), .int (iI (its)), .int (iI (((s : Nat) : Int))), .int (iI (so)), .int (iI (((k : Nat) : Int)))], [], (sh, M)) Q)  : ∀ (mz : Nat) (so : Int) (k : Nat) (M : Nat → Nat → Int), c - k = mz → px_qk sh [228, 246, 248, 253, 258] M0 M → (rz [] M0 M) → (mhR (M 258) (ulL lw (rr_ M0) (prL n n))) → (k ≤ c) → (so = 0 ∨ so = 1) → (so = 1 ↔ (opc s 16 < le ∧ ∀ x ∈ (ulL lw (rr_ M0) (prL n n)).take k, s &&& x ≠ 0)) → px_R xs L d 280 (116, [.ref 228, .int (iI (u)), .int (iI (((c : Nat) : Int))), .int (iI (le)), .int (iI (its)), .int (iI (((s : Nat) : Int))), .int (iI (so)), .int (iI (((k : Nat) : Int)))], [], (sh, M)) Q := by
  intro mz
  induction mz using Nat.strongRecOn with
  | _ mz ih =>
    intro so k M hm hq hrq hm hk hso hh
    have hlen : (ulL lw (rr_ M0) (prL n n)).length = c := by unfold ulL; rw [List.length_map]; exact hc.symm
    refine rr_iload pf_280_116 rfl ?_
    refine rr_iload_n pf_280_118 rfl ?_
    refine rr_icmp_ge 153 pf_280_119 (by decide) (by unfold rg; omega) (by unfold rg; omega) (fun c1 => ?_) (fun c1 => ?_)
    · exact kx so k M hq (hrq) (by rw [hh]; unfold hitL; rw [List.all_eq_true]; rw [List.take_of_length_le (by omega)]; simp only [decide_eq_true_eq]) (hso) (hm)
    · refine rr_iload pf_280_122 rfl ?_
      refine rr_if_eq 153 pf_280_124 (by decide) (by unfold rg; omega) (fun c2 => ?_) (fun c2 => ?_)
      · exact kx so k M hq (hrq) (by
                      rw [hh]; unfold hitL; rw [List.all_eq_true]; constructor
                      · intro z; have := hh.mpr z; omega
                      · rintro ⟨z1, z2⟩; refine ⟨z1, fun x hx => ?_⟩; exact of_decide_eq_true (z2 x (List.mem_of_mem_take hx))) (hso) (hm)
      · refine rr_iload pf_280_127 rfl ?_
        refine rr_aload_n pf_280_129 rfl ?_
        refine rr_getR pf_280_130 po_280 pg_9_143 rfl (ws_228 hW) (by decide) (wr_228_50 hq.1) ?_
        refine rr_iload pf_280_133 rfl ?_
        refine vr_iald (j := k) hq pf_280_135 (ws_258 hW) (by omega) (by omega) (by decide) (fun x3 hx3 rx3 => ?_)
        obtain ⟨xk, hxk⟩ : ∃ y, (ulL lw (rr_ M0) (prL n n))[k]? = some y := ⟨_, List.getElem?_eq_getElem (by omega)⟩
        rw [hm k xk hxk] at hx3
        have hxb : xk < 65536 := by
          have := List.mem_of_getElem? hxk
          unfold ulL at this
          obtain ⟨y, _, rfl⟩ := List.mem_map.mp this
          exact ulk_16 lw (rr_ M0) _ _ (Nat.le_refl 16)
        refine rr_iand (((s &&& xk : Nat) : Int)) pf_280_136 (by rw [hx3]; exact iI_and (by omega) (by omega)) ?_
        have hle : s &&& xk ≤ s := Nat.and_le_left
        refine rr_if_eq 144 pf_280_137 (by decide) (by unfold rg; omega) (fun c4 => ?_) (fun c4 => ?_)
        · refine rr_iconst pf_280_144 ?_
          refine rr_istore pf_280_145 (fun y => [.ref 228, .int (iI (u)), .int (iI (((c : Nat) : Int))), .int (iI (le)), .int (iI (its)), .int (iI (((s : Nat) : Int))), .int (iI (y)), .int (iI (((k : Nat) : Int)))]) (Nat.le_of_ble_eq_true rfl) (fun _ => rfl) (fun y5 hy5 => ?_)
          refine rr_iinc pf_280_147 rfl (fun y => [.ref 228, .int (iI (u)), .int (iI (((c : Nat) : Int))), .int (iI (le)), .int (iI (its)), .int (iI (((s : Nat) : Int))), .int (iI (y5)), .int (iI (y))]) (fun _ => rfl) (fun y6 hy6 => ?_)
          refine rr_goto 116 pf_280_150 (by decide) ?_
          obtain ⟨nz7, hnz7, rfl⟩ : ∃ zz : Nat, zz = 1 + k ∧ y6 = ((zz : Nat) : Int) := ⟨1 + k, rfl, by omega⟩
          exact ih _ (by omega) y5 nz7 M rfl hq (hrq) (hm) (by omega) (by omega) (by
                          obtain ⟨hz1, hz2⟩ := hh.mp (by omega)
                          rw [show nz7 = k + 1 by omega, List.take_succ, hxk]
                          constructor
                          · intro z
                            refine ⟨hz1, fun x hx => ?_⟩
                            rcases List.mem_append.mp hx with h1 | h1
                            · exact hz2 x h1
                            · simp at h1; subst h1; omega
                          · rintro ⟨_, z⟩
                            have := z xk (by simp)
                            omega)
        · refine rr_iconst pf_280_140 ?_
          refine rr_goto 145 pf_280_141 (by decide) ?_
          refine rr_istore pf_280_145 (fun y => [.ref 228, .int (iI (u)), .int (iI (((c : Nat) : Int))), .int (iI (le)), .int (iI (its)), .int (iI (((s : Nat) : Int))), .int (iI (y)), .int (iI (((k : Nat) : Int)))]) (Nat.le_of_ble_eq_true rfl) (fun _ => rfl) (fun y8 hy8 => ?_)
          refine rr_iinc pf_280_147 rfl (fun y => [.ref 228, .int (iI (u)), .int (iI (((c : Nat) : Int))), .int (iI (le)), .int (iI (its)), .int (iI (((s : Nat) : Int))), .int (iI (y8)), .int (iI (y))]) (fun _ => rfl) (fun y9 hy9 => ?_)
          refine rr_goto 116 pf_280_150 (by decide) ?_
          obtain ⟨nz10, hnz10, rfl⟩ : ∃ zz : Nat, zz = 1 + k ∧ y9 = ((zz : Nat) : Int) := ⟨1 + k, rfl, by omega⟩
          exact ih _ (by omega) y8 nz10 M rfl hq (hrq) (hm) (by omega) (by omega) (by
                          obtain ⟨hz1, hz2⟩ := hh.mp (by omega)
                          rw [show nz10 = k + 1 by omega, List.take_succ, hxk]
                          constructor
                          · intro z
                            refine ⟨hz1, fun x hx => ?_⟩
                            rcases List.mem_append.mp hx with h1 | h1
                            · exact hz2 x h1
                            · simp at h1; subst h1; omega
                          · rintro ⟨_, z⟩
                            have := z xk (by simp)
                            omega)
theorem lp_R_apart1_89 {xs : Nat → Int} {L d : Nat} {sh : List (Nat × Nat)} (hd : 9 ≤ d) (hW : px_W0 <+: sh) {M0 : Nat → Nat → Int}  (hρ : sp_ok (rr_ M0)) {lw : List sp_C} {n : Nat} (hn : rr_ M0 0 = ((n : Nat) : Int)) (hn8 : n ≤ 8) {u : Int} {c : Nat} (hc : c = (prL n n).length) (hc28 : c ≤ 28) {Q : Option Value → px_H → Prop} (kx : ∀ (le : Int) (its : Int) (s : Nat) (v6 : Value) (v7 : Value) (M : Nat → Nat → Int), px_qk sh [228, 246, 248, 253, 258] M0 M → (rz [] M0 M) → ((its, le) = apF (ulL lw (rr_ M0) (prL n n)) 65536) → px_R xs L d 280 (188, [.ref 228, .int (iI (u)), .int (iI (((c : Nat) : Int))), .int (iI (le)), .int (iI (its)), .int (iI (((s : Nat) : Int))), v6, v7], [], (sh, M)) Q)  : ∀ (mz : Nat) (le : Int) (its : Int) (s : Nat) (v6 : Value) (v7 : Value) (M : Nat → Nat → Int), 65536 - s = mz → px_qk sh [228, 246, 248, 253, 258] M0 M → (rz [] M0 M) → (mhR (M 258) (ulL lw (rr_ M0) (prL n n))) → (s ≤ 65536) → ((its, le) = apF (ulL lw (rr_ M0) (prL n n)) s) → px_R xs L d 280 (89, [.ref 228, .int (iI (u)), .int (iI (((c : Nat) : Int))), .int (iI (le)), .int (iI (its)), .int (iI (((s : Nat) : Int))), v6, v7], [], (sh, M)) Q := by
  intro mz
  induction mz using Nat.strongRecOn with
  | _ mz ih =>
    intro le its s v6 v7 M hm hq hrq hm hs hF
    have hFb := apF_b (ulL lw (rr_ M0) (prL n n)) s
    refine rr_iload pf_280_89 rfl ?_
    refine rr_ldc_w pf_280_91 po_280 pk_9_543 ?_
    refine rr_icmp_ge 188 pf_280_94 (by decide) (by unfold rg; omega) (by unfold rg; omega) (fun c1 => ?_) (fun c1 => ?_)
    · exact kx le its s _ _ M hq (hrq) (by rw [hF, show s = 65536 by omega])
    · rw [← hF] at hFb
      dsimp only at hFb
      refine rr_iload pf_280_97 rfl ?_
      obtain ⟨r4, M2, ⟨kq3, pv_M2⟩, hcM2⟩ := ct_R_ones (xs := xs) (L := L) (d := d) (s := s) (by omega) hW hq.1 hq.2.1 (by omega)
      obtain rfl := qk_nil kq3
      refine rr_cS1 pf_280_99 po_280 pc_9_544 (by decide) rfl hcM2 ?_
      have hob := opc_b s 16
      refine rr_iload_n pf_280_102 rfl ?_
      refine rr_icmp_ge 110 pf_280_103 (by decide) (by unfold rg; omega) (by unfold rg; omega) (fun c5 => ?_) (fun c5 => ?_)
      · refine rr_iconst pf_280_110 ?_
        refine rr_istore pf_280_111 (fun y => [.ref 228, .int (iI (u)), .int (iI (((c : Nat) : Int))), .int (iI (le)), .int (iI (its)), .int (iI (((s : Nat) : Int))), .int (iI (y)), v7]) (Nat.le_of_ble_eq_true rfl) (fun _ => rfl) (fun y6 hy6 => ?_)
        refine rr_iconst pf_280_113 ?_
        refine rr_istore pf_280_114 (fun y => [.ref 228, .int (iI (u)), .int (iI (((c : Nat) : Int))), .int (iI (le)), .int (iI (its)), .int (iI (((s : Nat) : Int))), .int (iI (y6)), .int (iI (y))]) (Nat.le_of_ble_eq_true rfl) (fun _ => rfl) (fun y7 hy7 => ?_)
        obtain ⟨nz8, hnz8, rfl⟩ : ∃ zz : Nat, zz = 0 ∧ y7 = ((zz : Nat) : Int) := ⟨0, rfl, by omega⟩
        refine lp_R_apart1_116 (xs := xs) (L := L) (d := d) (by omega) hW hρ hn hn8 hc hc28 (by omega) (fun so_9 k_10  M11 q12 xrq_M11 xh_M11 xso_M11 xm4_M11 => ?_) _ y6 nz8 M rfl hq (hrq) (hm) (by omega) (by omega) (by
                      rw [show nz8 = 0 by omega]; simp only [List.take_zero]; constructor
                      · intro z; exact ⟨by omega, fun x hx => by simp at hx⟩
                      · intro z; have := z.1; omega)
        have hxh := xh_M11
        have hxso := xso_M11
        refine rr_iload pf_280_153 rfl ?_
        refine rr_if_eq 163 pf_280_155 (by decide) (by unfold rg; omega) (fun c13 => ?_) (fun c13 => ?_)
        · refine rr_iload pf_280_163 rfl ?_
          refine rr_istore pf_280_165 (fun y => [.ref 228, .int (iI (u)), .int (iI (((c : Nat) : Int))), .int (iI (le)), .int (iI (y)), .int (iI (((s : Nat) : Int))), .int (iI (so_9)), .int (iI (((k_10 : Nat) : Int)))]) (Nat.le_of_ble_eq_true rfl) (fun _ => rfl) (fun y14 hy14 => ?_)
          refine rr_iload pf_280_167 rfl ?_
          refine rr_if_eq 180 pf_280_169 (by decide) (by unfold rg; omega) (fun c15 => ?_) (fun c15 => ?_)
          · refine rr_iload_n pf_280_180 rfl ?_
            refine rr_istore_n pf_280_181 (fun y => [.ref 228, .int (iI (u)), .int (iI (((c : Nat) : Int))), .int (iI (y)), .int (iI (y14)), .int (iI (((s : Nat) : Int))), .int (iI (so_9)), .int (iI (((k_10 : Nat) : Int)))]) (Nat.le_of_ble_eq_true rfl) (fun _ => rfl) (fun y16 hy16 => ?_)
            refine rr_iinc pf_280_182 rfl (fun y => [.ref 228, .int (iI (u)), .int (iI (((c : Nat) : Int))), .int (iI (y16)), .int (iI (y14)), .int (iI (y)), .int (iI (so_9)), .int (iI (((k_10 : Nat) : Int)))]) (fun _ => rfl) (fun y17 hy17 => ?_)
            refine rr_goto 89 pf_280_185 (by decide) ?_
            obtain ⟨nz18, hnz18, rfl⟩ : ∃ zz : Nat, zz = 1 + s ∧ y17 = ((zz : Nat) : Int) := ⟨1 + s, rfl, by omega⟩
            exact ih _ (by omega) y16 y14 nz18 _ _ M11 rfl q12 (xrq_M11) (xm4_M11) (by omega) (by rw [show nz18 = s + 1 by omega, apF, ← hF]; dsimp only; rw [if_neg (by intro z; have := hxh.mpr z; omega)]; congr 1 <;> omega)
          · exfalso; omega
        · refine rr_iload pf_280_158 rfl ?_
          refine rr_goto 165 pf_280_160 (by decide) ?_
          refine rr_istore pf_280_165 (fun y => [.ref 228, .int (iI (u)), .int (iI (((c : Nat) : Int))), .int (iI (le)), .int (iI (y)), .int (iI (((s : Nat) : Int))), .int (iI (so_9)), .int (iI (((k_10 : Nat) : Int)))]) (Nat.le_of_ble_eq_true rfl) (fun _ => rfl) (fun y19 hy19 => ?_)
          refine rr_iload pf_280_167 rfl ?_
          refine rr_if_eq 180 pf_280_169 (by decide) (by unfold rg; omega) (fun c20 => ?_) (fun c20 => ?_)
          · exfalso; omega
          · refine rr_iload pf_280_172 rfl ?_
            obtain ⟨r23, M21, ⟨kq22, pv_M21⟩, hcM21⟩ := ct_R_ones (xs := xs) (L := L) (d := d) (s := s) (by omega) hW q12.1 q12.2.1 (by omega)
            obtain rfl := qk_nil kq22
            refine rr_cS1 pf_280_174 po_280 pc_9_544 (by decide) rfl hcM21 ?_
            have hob2 := opc_b s 16
            refine rr_goto 181 pf_280_177 (by decide) ?_
            refine rr_istore_n pf_280_181 (fun y => [.ref 228, .int (iI (u)), .int (iI (((c : Nat) : Int))), .int (iI (y)), .int (iI (y19)), .int (iI (((s : Nat) : Int))), .int (iI (so_9)), .int (iI (((k_10 : Nat) : Int)))]) (Nat.le_of_ble_eq_true rfl) (fun _ => rfl) (fun y24 hy24 => ?_)
            refine rr_iinc pf_280_182 rfl (fun y => [.ref 228, .int (iI (u)), .int (iI (((c : Nat) : Int))), .int (iI (y24)), .int (iI (y19)), .int (iI (y)), .int (iI (so_9)), .int (iI (((k_10 : Nat) : Int)))]) (fun _ => rfl) (fun y25 hy25 => ?_)
            refine rr_goto 89 pf_280_185 (by decide) ?_
            obtain ⟨nz26, hnz26, rfl⟩ : ∃ zz : Nat, zz = 1 + s ∧ y25 = ((zz : Nat) : Int) := ⟨1 + s, rfl, by omega⟩
            exact ih _ (by omega) y24 y19 nz26 _ _ M11 rfl q12 (xrq_M11) (xm4_M11) (by omega) (by rw [show nz26 = s + 1 by omega, apF, ← hF]; dsimp only; rw [if_pos (hxh.mp (by omega))]; congr 1; omega)
      · refine rr_iconst pf_280_106 ?_
        refine rr_goto 111 pf_280_107 (by decide) ?_
        refine rr_istore pf_280_111 (fun y => [.ref 228, .int (iI (u)), .int (iI (((c : Nat) : Int))), .int (iI (le)), .int (iI (its)), .int (iI (((s : Nat) : Int))), .int (iI (y)), v7]) (Nat.le_of_ble_eq_true rfl) (fun _ => rfl) (fun y27 hy27 => ?_)
        refine rr_iconst pf_280_113 ?_
        refine rr_istore pf_280_114 (fun y => [.ref 228, .int (iI (u)), .int (iI (((c : Nat) : Int))), .int (iI (le)), .int (iI (its)), .int (iI (((s : Nat) : Int))), .int (iI (y27)), .int (iI (y))]) (Nat.le_of_ble_eq_true rfl) (fun _ => rfl) (fun y28 hy28 => ?_)
        obtain ⟨nz29, hnz29, rfl⟩ : ∃ zz : Nat, zz = 0 ∧ y28 = ((zz : Nat) : Int) := ⟨0, rfl, by omega⟩
        refine lp_R_apart1_116 (xs := xs) (L := L) (d := d) (by omega) hW hρ hn hn8 hc hc28 (by omega) (fun so_30 k_31  M32 q33 xrq_M32 xh_M32 xso_M32 xm4_M32 => ?_) _ y27 nz29 M rfl hq (hrq) (hm) (by omega) (by omega) (by
                      rw [show nz29 = 0 by omega]; simp only [List.take_zero]; constructor
                      · intro z; exact ⟨by omega, fun x hx => by simp at hx⟩
                      · intro z; have := z.1; omega)
        have hxh := xh_M32
        have hxso := xso_M32
        refine rr_iload pf_280_153 rfl ?_
        refine rr_if_eq 163 pf_280_155 (by decide) (by unfold rg; omega) (fun c34 => ?_) (fun c34 => ?_)
        · refine rr_iload pf_280_163 rfl ?_
          refine rr_istore pf_280_165 (fun y => [.ref 228, .int (iI (u)), .int (iI (((c : Nat) : Int))), .int (iI (le)), .int (iI (y)), .int (iI (((s : Nat) : Int))), .int (iI (so_30)), .int (iI (((k_31 : Nat) : Int)))]) (Nat.le_of_ble_eq_true rfl) (fun _ => rfl) (fun y35 hy35 => ?_)
          refine rr_iload pf_280_167 rfl ?_
          refine rr_if_eq 180 pf_280_169 (by decide) (by unfold rg; omega) (fun c36 => ?_) (fun c36 => ?_)
          · refine rr_iload_n pf_280_180 rfl ?_
            refine rr_istore_n pf_280_181 (fun y => [.ref 228, .int (iI (u)), .int (iI (((c : Nat) : Int))), .int (iI (y)), .int (iI (y35)), .int (iI (((s : Nat) : Int))), .int (iI (so_30)), .int (iI (((k_31 : Nat) : Int)))]) (Nat.le_of_ble_eq_true rfl) (fun _ => rfl) (fun y37 hy37 => ?_)
            refine rr_iinc pf_280_182 rfl (fun y => [.ref 228, .int (iI (u)), .int (iI (((c : Nat) : Int))), .int (iI (y37)), .int (iI (y35)), .int (iI (y)), .int (iI (so_30)), .int (iI (((k_31 : Nat) : Int)))]) (fun _ => rfl) (fun y38 hy38 => ?_)
            refine rr_goto 89 pf_280_185 (by decide) ?_
            obtain ⟨nz39, hnz39, rfl⟩ : ∃ zz : Nat, zz = 1 + s ∧ y38 = ((zz : Nat) : Int) := ⟨1 + s, rfl, by omega⟩
            exact ih _ (by omega) y37 y35 nz39 _ _ M32 rfl q33 (xrq_M32) (xm4_M32) (by omega) (by rw [show nz39 = s + 1 by omega, apF, ← hF]; dsimp only; rw [if_neg (by intro z; have := hxh.mpr z; omega)]; congr 1 <;> omega)
          · exfalso; omega
        · refine rr_iload pf_280_158 rfl ?_
          refine rr_goto 165 pf_280_160 (by decide) ?_
          refine rr_istore pf_280_165 (fun y => [.ref 228, .int (iI (u)), .int (iI (((c : Nat) : Int))), .int (iI (le)), .int (iI (y)), .int (iI (((s : Nat) : Int))), .int (iI (so_30)), .int (iI (((k_31 : Nat) : Int)))]) (Nat.le_of_ble_eq_true rfl) (fun _ => rfl) (fun y40 hy40 => ?_)
          refine rr_iload pf_280_167 rfl ?_
          refine rr_if_eq 180 pf_280_169 (by decide) (by unfold rg; omega) (fun c41 => ?_) (fun c41 => ?_)
          · exfalso; omega
          · refine rr_iload pf_280_172 rfl ?_
            obtain ⟨r44, M42, ⟨kq43, pv_M42⟩, hcM42⟩ := ct_R_ones (xs := xs) (L := L) (d := d) (s := s) (by omega) hW q33.1 q33.2.1 (by omega)
            obtain rfl := qk_nil kq43
            refine rr_cS1 pf_280_174 po_280 pc_9_544 (by decide) rfl hcM42 ?_
            have hob2 := opc_b s 16
            refine rr_goto 181 pf_280_177 (by decide) ?_
            refine rr_istore_n pf_280_181 (fun y => [.ref 228, .int (iI (u)), .int (iI (((c : Nat) : Int))), .int (iI (y)), .int (iI (y40)), .int (iI (((s : Nat) : Int))), .int (iI (so_30)), .int (iI (((k_31 : Nat) : Int)))]) (Nat.le_of_ble_eq_true rfl) (fun _ => rfl) (fun y45 hy45 => ?_)
            refine rr_iinc pf_280_182 rfl (fun y => [.ref 228, .int (iI (u)), .int (iI (((c : Nat) : Int))), .int (iI (y45)), .int (iI (y40)), .int (iI (y)), .int (iI (so_30)), .int (iI (((k_31 : Nat) : Int)))]) (fun _ => rfl) (fun y46 hy46 => ?_)
            refine rr_goto 89 pf_280_185 (by decide) ?_
            obtain ⟨nz47, hnz47, rfl⟩ : ∃ zz : Nat, zz = 1 + s ∧ y46 = ((zz : Nat) : Int) := ⟨1 + s, rfl, by omega⟩
            exact ih _ (by omega) y45 y40 nz47 _ _ M32 rfl q33 (xrq_M32) (xm4_M32) (by omega) (by rw [show nz47 = s + 1 by omega, apF, ← hF]; dsimp only; rw [if_pos (hxh.mp (by omega))]; congr 1; omega)
theorem ct_R_apart1 {xs : Nat → Int} {L d : Nat} {sh : List (Nat × Nat)} {M0 : Nat → Nat → Int} (hd : 10 ≤ d) (hW : px_W0 <+: sh) (hF : px_Fx M0) (hG : px_RG sh M0)  (hρ : sp_ok (rr_ M0)) {lw : List sp_C} (hlw : px_lwR M0 lw) (hord : M0 228 20 = 0) {n : Nat} (hn : rr_ M0 0 = ((n : Nat) : Int)) (hn8 : n ≤ 8) {u : Int} (hu0 : 0 ≤ u ∧ u ≤ 1) : ∃ v M, (px_qk sh [228, 246, 248, 253, 258] M0 M ∧ (v = sp_apa lw (rr_ M0) u) ∧ (rz [] M0 M)) ∧ px_Cl xs L d 280 [.ref 228, .int (iI (u))] (sh, M0) (some (.int (iI v))) (sh, M) := by
  obtain ⟨d, rfl⟩ : ∃ e, d = e + 1 := ⟨d - 1, by omega⟩
  have q0 : px_qk sh [228, 246, 248, 253, 258] M0 M0 := ⟨hF, hG, eo_rf⟩
  refine vc_i (Nat.le_of_ble_eq_true rfl) ?_
  show px_R xs L d 280 (0, [.ref 228, .int (iI (u)), px_jk, px_jk, px_jk, px_jk, px_jk, px_jk], [], (sh, M0)) (fun r h' => ∃ v M', r = some (.int (iI v)) ∧ h' = (sh, M') ∧ px_qk sh [228, 246, 248, 253, 258] M0 M' ∧ v = sp_apa lw (rr_ M0) u ∧ rz [] M0 M')
  refine rr_aload_n pf_280_0 rfl ?_
  refine rr_iconst pf_280_1 ?_
  refine vr_putI hW q0 pf_280_2 po_280 pg_9_177 (Or.inl rfl) rfl (ws_228 hW) (by decide) (by unfold rg; omega) (by decide) (fun M1 eM1 q2 => ?_)
  have rq3 := rz_up (rz_rf [] M0) eM1 (by decide)
  refine rr_iload_n pf_280_5 rfl ?_
  refine rr_i2l pf_280_6 (by unfold rg; omega) ?_
  refine rr_lconst (w := 0) pf_280_7 rfl ?_
  refine rr_lconst (w := 1) pf_280_8 rfl ?_
  refine rr_cS3 pf_280_9 po_280 pc_9_197 (by decide) rfl (ct_R_in (by omega) (by unfold rl; omega) (by unfold rl; omega) (by unfold rl; omega)) ?_
  refine rr_ifb_ne 17 pf_280_12 (by decide) (fun c4 => ?_) (fun c4 => ?_)
  · refine rr_aload_n pf_280_17 rfl ?_
    obtain ⟨M5, ⟨kq6, pa_M5, pf_M5⟩, hcM5⟩ := ct_R_layAll (xs := xs) (L := L) (d := d) (lw := lw) (n := n) (by omega) hW q2.1 q2.2.1 (by rw [rr_q q2 (by decide)]; exact hρ) (lwR_q q2 (by decide) hlw) ((rq3 20 (by decide) (by decide)).trans hord) (by rw [rr_q q2 (by decide)]; exact hn) hn8
    have q6 := qk_trm q2 kq6 (by decide)
    rw [rr_q q2 (by decide)] at pa_M5
    have rq8 := rz_rq rq3 pf_M5
    refine rr_cV0 pf_280_18 po_280 pc_9_524 (ws_228 hW) po_270 (by decide) rfl hcM5 ?_
    
    refine rr_iconst pf_280_21 ?_
    refine rr_istore_n pf_280_22 (fun y => [.ref 228, .int (iI (u)), .int (iI (y)), px_jk, px_jk, px_jk, px_jk, px_jk]) (Nat.le_of_ble_eq_true rfl) (fun _ => rfl) (fun y9 hy9 => ?_)
    refine rr_iconst pf_280_23 ?_
    refine rr_istore_n pf_280_24 (fun y => [.ref 228, .int (iI (u)), .int (iI (y9)), .int (iI (y)), px_jk, px_jk, px_jk, px_jk]) (Nat.le_of_ble_eq_true rfl) (fun _ => rfl) (fun y10 hy10 => ?_)
    obtain ⟨nz11, hnz11, rfl⟩ : ∃ zz : Nat, zz = 0 ∧ y9 = ((zz : Nat) : Int) := ⟨0, rfl, by omega⟩
    obtain ⟨nz12, hnz12, rfl⟩ : ∃ zz : Nat, zz = 0 ∧ y10 = ((zz : Nat) : Int) := ⟨0, rfl, by omega⟩
    refine lp_R_apart1_25 (xs := xs) (L := L) (d := d) (by omega) hW hρ hn hn8 (fun c_13 a_14 v17 v18 v19 v20 M15 q16 xrq_M15 xc_M15 xm_M15 => ?_) _ nz11 nz12 _ _ _ _ M5 rfl q6 (rq8) (pa_M5) (by omega) (by rw [show nz11 = 0 by omega, show nz12 = 0 by omega]; rfl) (by rw [show nz12 = 0 by omega]; intro k x hx; cases k <;> simp [ulL, prL] at hx)
    refine rr_ldc_w pf_280_79 po_280 pk_9_502 ?_
    refine rr_istore_n pf_280_82 (fun y => [.ref 228, .int (iI (u)), .int (iI (((c_13 : Nat) : Int))), .int (iI (y)), v17, v18, v19, v20]) (Nat.le_of_ble_eq_true rfl) (fun _ => rfl) (fun y21 hy21 => ?_)
    refine rr_iconst pf_280_83 ?_
    refine rr_istore pf_280_84 (fun y => [.ref 228, .int (iI (u)), .int (iI (((c_13 : Nat) : Int))), .int (iI (y21)), .int (iI (y)), v18, v19, v20]) (Nat.le_of_ble_eq_true rfl) (fun _ => rfl) (fun y22 hy22 => ?_)
    refine rr_iconst pf_280_86 ?_
    refine rr_istore pf_280_87 (fun y => [.ref 228, .int (iI (u)), .int (iI (((c_13 : Nat) : Int))), .int (iI (y21)), .int (iI (y22)), .int (iI (y)), v19, v20]) (Nat.le_of_ble_eq_true rfl) (fun _ => rfl) (fun y23 hy23 => ?_)
    obtain ⟨nz24, hnz24, rfl⟩ : ∃ zz : Nat, zz = 0 ∧ y23 = ((zz : Nat) : Int) := ⟨0, rfl, by omega⟩
    refine lp_R_apart1_89 (xs := xs) (L := L) (d := d) (by omega) hW hρ hn hn8 xc_M15 (by have := prL_len2 n (by omega) n (by omega) (by omega); have := xc_M15; omega) (fun le_25 its_26 s_27 v30 v31 M28 q29 xrq_M28 xF_M28 => ?_) _ y21 y22 nz24 _ _ M15 rfl q16 (xrq_M15) (xm_M15) (by omega) (by rw [show nz24 = 0 by omega]; simp only [apF]; congr 1)
    have hFb := apF_b (ulL lw (rr_ M0) (prL n n)) 65536
    rw [← xF_M28] at hFb
    dsimp only at hFb
    refine rr_iload pf_280_188 rfl ?_
    refine rr_iconst pf_280_190 ?_
    refine rr_icmp_eq 199 pf_280_191 (by decide) (by unfold rg; omega) (by unfold rg; omega) (fun c32 => ?_) (fun c32 => ?_)
    · refine rr_iload pf_280_199 rfl ?_
      refine rr_goto 205 pf_280_201 (by decide) ?_
      refine rr_iret pf_280_205 pt_280 ⟨_, M28, rfl, rfl, q29, (by unfold sp_apa; rw [show (rr_ M0 0).toNat = n by omega, if_pos (by omega), ← xF_M28]; dsimp only; rw [if_pos (by omega)]), (xrq_M28)⟩
    · refine rr_iload_n pf_280_194 rfl ?_
      refine rr_iconst pf_280_195 ?_
      refine rr_icmp_ne 204 pf_280_196 (by decide) (by unfold rg; omega) (by unfold rg; omega) (fun c33 => ?_) (fun c33 => ?_)
      · refine rr_iload_n pf_280_204 rfl ?_
        refine rr_iret pf_280_205 pt_280 ⟨_, M28, rfl, rfl, q29, (by unfold sp_apa; rw [show (rr_ M0 0).toNat = n by omega, if_pos (by omega), ← xF_M28]; dsimp only; rw [if_neg (by omega)]), (xrq_M28)⟩
      · refine rr_iload pf_280_199 rfl ?_
        refine rr_goto 205 pf_280_201 (by decide) ?_
        refine rr_iret pf_280_205 pt_280 ⟨_, M28, rfl, rfl, q29, (by unfold sp_apa; rw [show (rr_ M0 0).toNat = n by omega, if_pos (by omega), ← xF_M28]; dsimp only; rw [if_pos (by omega)]), (xrq_M28)⟩
  · exfalso; omega
theorem ct_R_apart0 {xs : Nat → Int} {L d : Nat} {sh : List (Nat × Nat)} {M0 : Nat → Nat → Int} (hd : 3 ≤ d) (hW : px_W0 <+: sh) (hF : px_Fx M0) (hG : px_RG sh M0)  {u : Int} (hu0 : rg u) (hx : ¬ (0 ≤ u ∧ u ≤ 1)) : ∃ v M, (px_qk sh [228] M0 M ∧ (v = -1) ∧ (rz [] M0 M)) ∧ px_Cl xs L d 280 [.ref 228, .int (iI (u))] (sh, M0) (some (.int (iI v))) (sh, M) := by
  obtain ⟨d, rfl⟩ : ∃ e, d = e + 1 := ⟨d - 1, by omega⟩
  have q0 : px_qk sh [228] M0 M0 := ⟨hF, hG, eo_rf⟩
  refine vc_i (Nat.le_of_ble_eq_true rfl) ?_
  show px_R xs L d 280 (0, [.ref 228, .int (iI (u)), px_jk, px_jk, px_jk, px_jk, px_jk, px_jk], [], (sh, M0)) (fun r h' => ∃ v M', r = some (.int (iI v)) ∧ h' = (sh, M') ∧ px_qk sh [228] M0 M' ∧ v = -1 ∧ rz [] M0 M')
  refine rr_aload_n pf_280_0 rfl ?_
  refine rr_iconst pf_280_1 ?_
  refine vr_putI hW q0 pf_280_2 po_280 pg_9_177 (Or.inl rfl) rfl (ws_228 hW) (by decide) (by unfold rg; omega) (by decide) (fun M1 eM1 q2 => ?_)
  have rq3 := rz_up (rz_rf [] M0) eM1 (by decide)
  refine rr_iload_n pf_280_5 rfl ?_
  refine rr_i2l pf_280_6 hu0 ?_
  refine rr_lconst (w := 0) pf_280_7 rfl ?_
  refine rr_lconst (w := 1) pf_280_8 rfl ?_
  refine rr_cS3 pf_280_9 po_280 pc_9_197 (by decide) rfl (ct_R_in (by omega) (rl_rg hu0) (by unfold rl; omega) (by unfold rl; omega)) ?_
  refine rr_ifb_ne 17 pf_280_12 (by decide) (fun c4 => ?_) (fun c4 => ?_)
  · exfalso; omega
  · refine rr_iconst pf_280_15 ?_
    refine rr_iret pf_280_16 pt_280 ⟨_, M1, rfl, rfl, q2, (by rfl), (rq3)⟩

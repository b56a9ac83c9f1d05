/-! sums -/
def sp_join (op a b : Int) : Int := if op = 5 then a + b else if op = 6 then a - b else if op = 7 then a * b else if op = 8 then (if b = 0 then -2000000000 else a.tdiv b) else if op = 9 then (if b = 0 then -2000000000 else a.tmod b) else if op = 10 then (if a < b then 1 else 0) else if op = 11 then (if b < a then 1 else 0) else (if a = b then 1 else 0)
def evC (ops args vals : Nat → Int) (nv : Nat) : Nat → Nat → Int → List Int → Option (List Int)
  | 0, _, _, stk => some stk
  | f + 1, i, rs, stk =>
    if (i : Int) < rs then evC ops args vals nv f (i + 1) rs stk
    else if ops i = 0 ∨ ops i = 1 then
      (if 51 ≤ stk.length ∨ (ops i = 1 ∧ (nv : Int) ≤ args i) then none else evC ops args vals nv f (i + 1) rs ((if ops i = 0 then args i else vals (args i).toNat) :: stk))
    else if ops i ≤ 4 then
      (match stk with
        | [] => none
        | x :: r => if ops i = 2 then evC ops args vals nv f (i + 1) rs ((1 - x) :: r) else if (x = 1 ∧ ops i = 4) ∨ (¬ x = 1 ∧ ¬ ops i = 4) then evC ops args vals nv f (i + 1) (args i) (x :: r) else evC ops args vals nv f (i + 1) rs r)
    else
      (match stk with
        | y :: x :: r => if 1000000000 < sp_join (ops i) x y ∨ sp_join (ops i) x y < -1000000000 then none else evC ops args vals nv f (i + 1) rs (sp_join (ops i) x y :: r)
        | _ => none)
def resC (q : Option (List Int)) : Int := match q with
  | none => -2000000000
  | some [] => 1
  | some (x :: _) => x
theorem mul_rl {a b : Int} (ha : rg a) (hb : rg b) : rl (a * b) := by
  unfold rg at ha hb
  unfold rl
  have h1 : a.natAbs ≤ 2147483648 := by omega
  have h2 : b.natAbs ≤ 2147483648 := by omega
  have h3 : a.natAbs * b.natAbs ≤ 2147483648 * 2147483648 := Nat.mul_le_mul h1 h2
  have h4 : (a * b).natAbs = a.natAbs * b.natAbs := Int.natAbs_mul a b
  omega
theorem tdiv_rl {a b : Int} (ha : rg a) : rl (a.tdiv b) := by
  unfold rg at ha
  unfold rl
  have h := Int.natAbs_tdiv_le_natAbs a b
  omega
theorem tmod_rl {a b : Int} (ha : rg a) (hb : rg b) (h0 : b ≠ 0) : rl (a.tmod b) := by
  unfold rg at ha hb
  unfold rl
  have h : (a.tmod b).natAbs = a.natAbs % b.natAbs := by
    rw [Int.natAbs_tmod]
  have h2 : a.natAbs % b.natAbs ≤ a.natAbs := Nat.mod_le _ _
  omega
theorem sp_join_rl {op a b : Int} (ha : rg a) (hb : rg b) : rl (sp_join op a b) := by
  unfold sp_join
  repeat' split
  all_goals first | exact mul_rl ha hb | exact tdiv_rl ha | exact tmod_rl ha hb (by assumption) | (simp only [rg, rl] at *; omega)
theorem ct_Sums_join {xs : Nat → Int} {L d : Nat} {sh : List (Nat × Nat)} {M : Nat → Nat → Int} (hd : 1 ≤ d) {op a b : Int} (ho : rg op) (ha : rg a) (hb : rg b) : px_Cl xs L d 26 [.int (iI (op)), .long (lI (a)), .long (lI (b))] (sh, M) (some (.long (lI (sp_join op a b)))) (sh, M) := by
  obtain ⟨d, rfl⟩ : ∃ e, d = e + 1 := ⟨d - 1, by omega⟩
  refine px_Cl_intro (Nat.le_of_ble_eq_true rfl) ?_
  show px_R xs L d 26 (0, [.int (iI (op)), .long (lI (a)), px_jk, .long (lI (b)), px_jk], [], (sh, M)) _
  refine rr_iload_n pf_26_0 rfl ?_
  rcases (show (op < 5 ∨ 11 < op) ∨ op = 5 ∨ op = 6 ∨ op = 7 ∨ op = 8 ∨ op = 9 ∨ op = 10 ∨ op = 11 by omega) with hsw1 | hsw1 | hsw1 | hsw1 | hsw1 | hsw1 | hsw1 | hsw1
  · refine rr_tsw_out 112 pf_26_1 (by decide) ho hsw1 ?_
    refine rr_lload_n pf_26_112 rfl ?_
    refine rr_lload_n pf_26_113 rfl ?_
    refine rr_lcmp pf_26_114 (by simp only [rg, rl] at *; omega) (by simp only [rg, rl] at *; omega) ?_
    refine rr_ifc_ne 122 pf_26_115 (by decide) (fun c2 => ?_) (fun c2 => ?_)
    · refine rr_lconst (w := 0) pf_26_122 rfl ?_
      refine rr_lret pf_26_123 pt_26 ⟨by simp only [sp_join]; congr 3; repeat' first | rfl | omega | split, rfl⟩
    · refine rr_lconst (w := 1) pf_26_118 rfl ?_
      refine rr_goto 123 pf_26_119 (by decide) ?_
      refine rr_lret pf_26_123 pt_26 ⟨by simp only [sp_join]; congr 3; repeat' first | rfl | omega | split, rfl⟩
  · refine rr_tsw_in (off := 43) 44 pf_26_1 ho (by omega) (by rw [hsw1]; rfl) (by decide) ?_
    refine rr_lload_n pf_26_44 rfl ?_
    refine rr_lload_n pf_26_45 rfl ?_
    refine rr_ladd pf_26_46 ?_
    refine rr_lret pf_26_47 pt_26 ⟨by simp only [sp_join]; congr 3; repeat' first | rfl | omega | split, rfl⟩
  · refine rr_tsw_in (off := 47) 48 pf_26_1 ho (by omega) (by rw [hsw1]; rfl) (by decide) ?_
    refine rr_lload_n pf_26_48 rfl ?_
    refine rr_lload_n pf_26_49 rfl ?_
    refine rr_lsub pf_26_50 ?_
    refine rr_lret pf_26_51 pt_26 ⟨by simp only [sp_join]; congr 3; repeat' first | rfl | omega | split, rfl⟩
  · refine rr_tsw_in (off := 51) 52 pf_26_1 ho (by omega) (by rw [hsw1]; rfl) (by decide) ?_
    refine rr_lload_n pf_26_52 rfl ?_
    refine rr_lload_n pf_26_53 rfl ?_
    refine rr_lmul pf_26_54 ?_
    refine rr_lret pf_26_55 pt_26 ⟨by simp only [sp_join]; congr 3; repeat' first | rfl | omega | split, rfl⟩
  · refine rr_tsw_in (off := 55) 56 pf_26_1 ho (by omega) (by rw [hsw1]; rfl) (by decide) ?_
    refine rr_lload_n pf_26_56 rfl ?_
    refine rr_lconst (w := 0) pf_26_57 rfl ?_
    refine rr_lcmp pf_26_58 (by simp only [rg, rl] at *; omega) (by simp only [rg, rl] at *; omega) ?_
    refine rr_ifc_ne 68 pf_26_59 (by decide) (fun c3 => ?_) (fun c3 => ?_)
    · refine rr_lload_n pf_26_68 rfl ?_
      refine rr_lload_n pf_26_69 rfl ?_
      refine rr_ldiv pf_26_70 (by simp only [rg, rl] at *; omega) (by simp only [rg, rl] at *; omega) (by omega) ?_
      refine rr_lret pf_26_71 pt_26 ⟨by simp only [sp_join]; congr 3; repeat' first | rfl | omega | split, rfl⟩
    · refine rr_ldc2_w pf_26_62 po_26 pl_5_35 ?_
      refine rr_goto 71 pf_26_65 (by decide) ?_
      refine rr_lret pf_26_71 pt_26 ⟨by simp only [sp_join]; congr 3; repeat' first | rfl | omega | split, rfl⟩
  · refine rr_tsw_in (off := 71) 72 pf_26_1 ho (by omega) (by rw [hsw1]; rfl) (by decide) ?_
    refine rr_lload_n pf_26_72 rfl ?_
    refine rr_lconst (w := 0) pf_26_73 rfl ?_
    refine rr_lcmp pf_26_74 (by simp only [rg, rl] at *; omega) (by simp only [rg, rl] at *; omega) ?_
    refine rr_ifc_ne 84 pf_26_75 (by decide) (fun c4 => ?_) (fun c4 => ?_)
    · refine rr_lload_n pf_26_84 rfl ?_
      refine rr_lload_n pf_26_85 rfl ?_
      refine rr_lrem pf_26_86 (by simp only [rg, rl] at *; omega) (by simp only [rg, rl] at *; omega) (by omega) ?_
      refine rr_lret pf_26_87 pt_26 ⟨by simp only [sp_join]; congr 3; repeat' first | rfl | omega | split, rfl⟩
    · refine rr_ldc2_w pf_26_78 po_26 pl_5_35 ?_
      refine rr_goto 87 pf_26_81 (by decide) ?_
      refine rr_lret pf_26_87 pt_26 ⟨by simp only [sp_join]; congr 3; repeat' first | rfl | omega | split, rfl⟩
  · refine rr_tsw_in (off := 87) 88 pf_26_1 ho (by omega) (by rw [hsw1]; rfl) (by decide) ?_
    refine rr_lload_n pf_26_88 rfl ?_
    refine rr_lload_n pf_26_89 rfl ?_
    refine rr_lcmp pf_26_90 (by simp only [rg, rl] at *; omega) (by simp only [rg, rl] at *; omega) ?_
    refine rr_ifc_ge 98 pf_26_91 (by decide) (fun c5 => ?_) (fun c5 => ?_)
    · refine rr_lconst (w := 0) pf_26_98 rfl ?_
      refine rr_lret pf_26_99 pt_26 ⟨by simp only [sp_join]; congr 3; repeat' first | rfl | omega | split, rfl⟩
    · refine rr_lconst (w := 1) pf_26_94 rfl ?_
      refine rr_goto 99 pf_26_95 (by decide) ?_
      refine rr_lret pf_26_99 pt_26 ⟨by simp only [sp_join]; congr 3; repeat' first | rfl | omega | split, rfl⟩
  · refine rr_tsw_in (off := 99) 100 pf_26_1 ho (by omega) (by rw [hsw1]; rfl) (by decide) ?_
    refine rr_lload_n pf_26_100 rfl ?_
    refine rr_lload_n pf_26_101 rfl ?_
    refine rr_lcmp pf_26_102 (by simp only [rg, rl] at *; omega) (by simp only [rg, rl] at *; omega) ?_
    refine rr_ifc_le 110 pf_26_103 (by decide) (fun c6 => ?_) (fun c6 => ?_)
    · refine rr_lconst (w := 0) pf_26_110 rfl ?_
      refine rr_lret pf_26_111 pt_26 ⟨by simp only [sp_join]; congr 3; repeat' first | rfl | omega | split, rfl⟩
    · refine rr_lconst (w := 1) pf_26_106 rfl ?_
      refine rr_goto 111 pf_26_107 (by decide) ?_
      refine rr_lret pf_26_111 pt_26 ⟨by simp only [sp_join]; congr 3; repeat' first | rfl | omega | split, rfl⟩
/-- a text at cells t .. t + 3 -/
def px_tx (sh : List (Nat × Nat)) (M : Nat → Nat → Int) (t N C : Nat) : Prop := sh[t]? = some (6, 6) ∧ sh[t + 1]? = some (10, N) ∧ sh[t + 2]? = some (10, N) ∧ sh[t + 3]? = some (10, 8 * C) ∧ M t 0 = ((t + 1 : Nat) : Int) ∧ M t 1 = ((t + 2 : Nat) : Int) ∧ M t 2 = ((t + 3 : Nat) : Int) ∧ N ≤ 400 ∧ C ≤ 12 ∧ (t = 201 ∨ 264 ≤ t)
section TX
variable {sh : List (Nat × Nat)} {M M2 : Nat → Nat → Int} {t N C : Nat}
theorem tx_s0 (h : px_tx sh M t N C) : sh[t]? = some (6, 6) := h.1
theorem tx_s1 (h : px_tx sh M t N C) : sh[t + 1]? = some (10, N) := h.2.1
theorem tx_s2 (h : px_tx sh M t N C) : sh[t + 2]? = some (10, N) := h.2.2.1
theorem tx_s3 (h : px_tx sh M t N C) : sh[t + 3]? = some (10, 8 * C) := h.2.2.2.1
theorem tx_f0 (h : px_tx sh M t N C) : M t 0 = ((t + 1 : Nat) : Int) := h.2.2.2.2.1
theorem tx_f1 (h : px_tx sh M t N C) : M t 1 = ((t + 2 : Nat) : Int) := h.2.2.2.2.2.1
theorem tx_f2 (h : px_tx sh M t N C) : M t 2 = ((t + 3 : Nat) : Int) := h.2.2.2.2.2.2.1
theorem tx_eq (h : px_tx sh M t N C) (e : M2 t = M t) : px_tx sh M2 t N C := by
  obtain ⟨a, b, c, d, e1, e2, e3, f⟩ := h
  exact ⟨a, b, c, d, by rw [e]; exact e1, by rw [e]; exact e2, by rw [e]; exact e3, f⟩
end TX
def stkB (stk : List Int) : Prop := ∀ x ∈ stk, -1000000000 ≤ x ∧ x ≤ 1000000001
theorem stkB_c {x : Int} {r : List Int} (hx : -1000000000 ≤ x ∧ x ≤ 1000000001) (h : stkB r) : stkB (x :: r) := fun y hy => (List.mem_cons.mp hy).elim (fun e => e ▸ hx) (h y)
theorem stkB_t {x : Int} {r : List Int} (h : stkB (x :: r)) : stkB r := fun y hy => h y (List.mem_cons_of_mem _ hy)
theorem stkB_h {x : Int} {r : List Int} (h : stkB (x :: r)) : -1000000000 ≤ x ∧ x ≤ 1000000001 := h x List.mem_cons_self
def stkOK (M : Nat → Nat → Int) (stk : List Int) : Prop := ∀ j, j < stk.length → M 2 j = stk.reverse.getD j 0
theorem stk_top {M : Nat → Nat → Int} {x : Int} {r : List Int} (h : stkOK M (x :: r)) : M 2 r.length = x := by
  have := h r.length (by simp)
  rw [this, List.getD_eq_getElem?_getD, List.reverse_cons, List.getElem?_append_right (by simp)]
  simp
theorem stk_pop {M : Nat → Nat → Int} {x : Int} {r : List Int} (h : stkOK M (x :: r)) : stkOK M r := by
  intro j hj
  have := h j (by simp; omega)
  rw [this, List.getD_eq_getElem?_getD, List.getD_eq_getElem?_getD, List.reverse_cons, List.getElem?_append_left (by simp; exact hj)]
theorem stk_push {M : Nat → Nat → Int} {x : Int} {r : List Int} (h : stkOK M r) : stkOK (px_up M 2 r.length x) (x :: r) := by
  intro j hj
  unfold px_up
  rw [if_pos rfl, List.getD_eq_getElem?_getD, List.reverse_cons]
  by_cases q : j = r.length
  · subst q
    rw [if_pos rfl, List.getElem?_append_right (by simp)]
    simp
  · have hj2 : j < r.length := by simp at hj; omega
    rw [if_neg q, List.getElem?_append_left (by simp; exact hj2), ← List.getD_eq_getElem?_getD]
    exact h j hj2
theorem lp_Sums_worth {xs : Nat → Int} {L d : Nat} {sh : List (Nat × Nat)} (hd : 1 ≤ d) (hW : px_W0 <+: sh) {M0 : Nat → Nat → Int} {t N C va nv to : Nat} {cl pt mk : Int} (hT0 : px_tx sh M0 t N C) (hva : sh[va]? = some (10, nv)) (hv2 : va ≠ 2) (hnv : nv ≤ 100) (hto : to ≤ N) (hargs0 : ∀ i, i < N → 0 ≤ M0 (t + 2) i ∧ M0 (t + 2) i ≤ 1000000000) (hvb : ∀ j, j < nv → -1000000000 ≤ M0 va j ∧ M0 va j ≤ 1000000000) (hops0 : ∀ i, i < N → 0 ≤ M0 (t + 1) i) : ∀ (f i : Nat) (rs : Int) (stk : List Int) (M : Nat → Nat → Int) (v10 v11 v12 v13 : Value), i + f = to → rg rs → px_Fx M → px_RG sh M → px_eo [2] M0 M → stkOK M stk → stk.length ≤ 51 → stkB stk → px_R xs L d 25 (34, [.ref 1, .ref t, .int (iI (cl)), .int (iI (pt)), .ref va, .int (iI (mk)), .int (iI ((to : Int))), .int (iI ((stk.length : Int) - 1)), .int (iI (rs)), .int (iI ((i : Int))), v10, v11, v12, v13], [], (sh, M)) (fun r h' => r = some (.int (iI (resC (evC (M0 (t + 1)) (M0 (t + 2)) (M0 va) nv f i rs stk)))) ∧ ∃ M', h' = (sh, M') ∧ px_qk sh [2] M0 M') := by
  have ht2 : 201 ≤ t := by have := hT0.2.2.2.2.2.2.2.2.2; omega
  have hN := hT0.2.2.2.2.2.2.2.1
  intro f
  induction f with
  | zero =>
    intro i rs stk M v10 v11 v12 v13 hi hrs hF hG hE hst hsl hsb
    have hT : px_tx sh M t N C := tx_eq hT0 (hE t (by simp; omega))
    refine rr_iload pf_25_34 rfl ?_
    refine rr_iload pf_25_36 rfl ?_
    refine rr_icmp_ge 299 pf_25_38 (by decide) (by simp only [rg, rl] at *; omega) (by simp only [rg, rl] at *; omega) (fun c1 => ?_) (fun c1 => ?_)
    · cases stk with
      | nil =>
        refine rr_iload pf_25_299 rfl ?_
        refine rr_if_ge 308 pf_25_301 (by decide) (by simp only [rg, rl, List.length_nil] at *; omega) (fun c => ?_) (fun c => ?_)
        · exfalso; simp at c
        · refine rr_iconst pf_25_304 ?_
          refine rr_goto 315 pf_25_305 (by decide) ?_
          exact rr_iret pf_25_315 pt_25 ⟨rfl, M, rfl, hF, hG, hE⟩
      | cons x r =>
        have hl : ((x :: r).length : Int) - 1 = (r.length : Int) := by simp
        have hx := stk_top hst
        have hlen : r.length < 51 := by simp at hsl; omega
        rw [hl]
        refine rr_iload pf_25_299 rfl ?_
        refine rr_if_ge 308 pf_25_301 (by decide) (by simp only [rg, rl] at *; omega) (fun c => ?_) (fun c => ?_)
        · refine rr_aload_n pf_25_308 rfl ?_
          refine rr_getR pf_25_309 po_25 pg_5_9 rfl (ws_1 hW) (by decide) (wr_1_0 hF) ?_
          refine rr_iload pf_25_312 rfl ?_
          refine rr_iald pf_25_314 (ws_2 hW) (by omega) (by omega) (by simp only [rg, rl] at *; omega) ?_
          rw [show ((r.length : Int)).toNat = r.length from Int.toNat_natCast _, hx]
          exact rr_iret pf_25_315 pt_25 ⟨rfl, M, rfl, hF, hG, hE⟩
        · exfalso; omega
    · exfalso; omega
  | succ f ih =>
    intro i rs stk M v10 v11 v12 v13 hi hrs hF hG hE hst hsl hsb
    have hT : px_tx sh M t N C := tx_eq hT0 (hE t (by simp; omega))
    by_cases hrs2 : (i : Int) < rs
    · skip
      refine rr_iload pf_25_34 rfl ?_
      refine rr_iload pf_25_36 rfl ?_
      refine rr_icmp_ge 299 pf_25_38 (by decide) (by simp only [rg, rl] at *; omega) (by simp only [rg, rl] at *; omega) (fun c1 => ?_) (fun c1 => ?_)
      · exfalso; omega
      · refine rr_iload pf_25_41 rfl ?_
        refine rr_iload pf_25_43 rfl ?_
        refine rr_icmp_ge 51 pf_25_45 (by decide) (by simp only [rg, rl] at *; omega) hrs (fun c2 => ?_) (fun c2 => ?_)
        · exfalso; omega
        · refine rr_goto 293 pf_25_48 (by decide) ?_
          refine rr_iinc pf_25_293 rfl (fun y => [.ref 1, .ref t, .int (iI (cl)), .int (iI (pt)), .ref va, .int (iI (mk)), .int (iI ((to : Int))), .int (iI ((stk.length : Int) - 1)), .int (iI (rs)), .int (iI (y)), v10, v11, v12, v13]) (fun _ => rfl) (fun y3 hy3 => ?_)
          refine rr_goto 34 pf_25_296 (by decide) ?_
          obtain rfl : y3 = ((i + 1 : Nat) : Int) := by omega
          have E : evC (M0 (t + 1)) (M0 (t + 2)) (M0 va) nv (f + 1) i rs stk = evC (M0 (t + 1)) (M0 (t + 2)) (M0 va) nv f (i + 1) rs stk := by
            simp only [evC]
            rw [if_pos hrs2]
          rw [E]
          exact ih (i + 1) rs stk M _ _ _ _ (by omega) hrs hF hG hE hst (by omega) hsb
    · skip
      refine rr_iload pf_25_34 rfl ?_
      refine rr_iload pf_25_36 rfl ?_
      refine rr_icmp_ge 299 pf_25_38 (by decide) (by simp only [rg, rl] at *; omega) (by simp only [rg, rl] at *; omega) (fun c1 => ?_) (fun c1 => ?_)
      · exfalso; omega
      · refine rr_iload pf_25_41 rfl ?_
        refine rr_iload pf_25_43 rfl ?_
        refine rr_icmp_ge 51 pf_25_45 (by decide) (by simp only [rg, rl] at *; omega) hrs (fun c2 => ?_) (fun c2 => ?_)
        · refine rr_aload_n pf_25_51 rfl ?_
          refine rr_getR pf_25_52 po_25 pg_5_20 rfl (tx_s0 hT) (by decide) (tx_f0 hT) ?_
          refine rr_iload pf_25_55 rfl ?_
          refine rr_iald pf_25_57 (tx_s1 hT) (by omega) (by omega) (by simp only [rg, rl] at *; omega) ?_
          refine rr_istore pf_25_58 (fun y => [.ref 1, .ref t, .int (iI (cl)), .int (iI (pt)), .ref va, .int (iI (mk)), .int (iI ((to : Int))), .int (iI ((stk.length : Int) - 1)), .int (iI (rs)), .int (iI ((i : Int))), .int (iI (y)), v11, v12, v13]) (Nat.le_of_ble_eq_true rfl) (fun _ => rfl) (fun y3 hy3 => ?_)
          refine rr_aload_n pf_25_60 rfl ?_
          refine rr_getR pf_25_61 po_25 pg_5_23 rfl (tx_s0 hT) (by decide) (tx_f1 hT) ?_
          refine rr_iload pf_25_64 rfl ?_
          refine rr_iald pf_25_66 (tx_s2 hT) (by omega) (by omega) (by simp only [rg, rl] at *; omega) ?_
          refine rr_istore pf_25_67 (fun y => [.ref 1, .ref t, .int (iI (cl)), .int (iI (pt)), .ref va, .int (iI (mk)), .int (iI ((to : Int))), .int (iI ((stk.length : Int) - 1)), .int (iI (rs)), .int (iI ((i : Int))), .int (iI (y3)), .int (iI (y)), v12, v13]) (Nat.le_of_ble_eq_true rfl) (fun _ => rfl) (fun y4 hy4 => ?_)
          have hop : y3 = M0 (t + 1) i := by rw [hy3, hE (t + 1) (by simp; omega), Int.toNat_natCast]
          have harg : y4 = M0 (t + 2) i := by rw [hy4, hE (t + 2) (by simp; omega), Int.toNat_natCast]
          have hrop : rg y3 := by rw [hy3]; exact rg_at hG (tx_s1 hT) (by rw [px_ty10]; decide)
          have hrarg : rg y4 := by rw [hy4]; exact rg_at hG (tx_s2 hT) (by rw [px_ty10]; decide)
          clear hy3 hy4
          generalize y3 = op at hop hrop ⊢
          generalize y4 = arg at harg hrarg ⊢
          have hargs := hargs0 i (by omega)
          rw [← harg] at hargs
          by_cases q0 : op = 0
          · by_cases hfull : 51 ≤ stk.length
            · skip
              refine rr_iload pf_25_69 rfl ?_
              refine rr_if_eq 80 pf_25_71 (by decide) hrop (fun c1 => ?_) (fun c1 => ?_)
              · refine rr_iinc pf_25_80 rfl (fun y => [.ref 1, .ref t, .int (iI (cl)), .int (iI (pt)), .ref va, .int (iI (mk)), .int (iI ((to : Int))), .int (iI (y)), .int (iI (rs)), .int (iI ((i : Int))), .int (iI (op)), .int (iI (arg)), v12, v13]) (fun _ => rfl) (fun y2 hy2 => ?_)
                refine rr_iload pf_25_83 rfl ?_
                refine rr_aload_n pf_25_85 rfl ?_
                refine rr_getR pf_25_86 po_25 pg_5_9 rfl (ws_1 hW) (by decide) (wr_1_0 hF) ?_
                refine rr_alen pf_25_89 (ws_2 hW) (by decide) ?_
                refine rr_icmp_ge 107 pf_25_90 (by decide) (by simp only [rg, rl] at *; omega) (by simp only [rg, rl] at *; omega) (fun c3 => ?_) (fun c3 => ?_)
                · refine rr_ldc pf_25_107 po_25 pk_5_26 ?_
                  refine rr_iret pf_25_109 pt_25 ⟨by rw [show evC (M0 (t + 1)) (M0 (t + 2)) (M0 va) nv (f + 1) i rs stk = none by simp only [evC]; rw [if_neg hrs2, if_pos (Or.inl (by rw [← hop]; exact q0)), if_pos (Or.inl hfull)]]; rfl, _, rfl, hF, hG, hE⟩
                · exfalso; omega
              · exfalso; omega
            · skip
              refine rr_iload pf_25_69 rfl ?_
              refine rr_if_eq 80 pf_25_71 (by decide) hrop (fun c1 => ?_) (fun c1 => ?_)
              · refine rr_iinc pf_25_80 rfl (fun y => [.ref 1, .ref t, .int (iI (cl)), .int (iI (pt)), .ref va, .int (iI (mk)), .int (iI ((to : Int))), .int (iI (y)), .int (iI (rs)), .int (iI ((i : Int))), .int (iI (op)), .int (iI (arg)), v12, v13]) (fun _ => rfl) (fun y2 hy2 => ?_)
                refine rr_iload pf_25_83 rfl ?_
                refine rr_aload_n pf_25_85 rfl ?_
                refine rr_getR pf_25_86 po_25 pg_5_9 rfl (ws_1 hW) (by decide) (wr_1_0 hF) ?_
                refine rr_alen pf_25_89 (ws_2 hW) (by decide) ?_
                refine rr_icmp_ge 107 pf_25_90 (by decide) (by simp only [rg, rl] at *; omega) (by simp only [rg, rl] at *; omega) (fun c3 => ?_) (fun c3 => ?_)
                · exfalso; omega
                · refine rr_iload pf_25_93 rfl ?_
                  refine rr_iconst pf_25_95 ?_
                  refine rr_icmp_ne 110 pf_25_96 (by decide) hrop (by simp only [rg, rl] at *; omega) (fun c4 => ?_) (fun c4 => ?_)
                  · refine rr_aload_n pf_25_110 rfl ?_
                    refine rr_getR pf_25_111 po_25 pg_5_9 rfl (ws_1 hW) (by decide) (wr_1_0 hF) ?_
                    refine rr_iload pf_25_114 rfl ?_
                    refine rr_iload pf_25_116 rfl ?_
                    refine rr_if_ne 126 pf_25_118 (by decide) hrop (fun c5 => ?_) (fun c5 => ?_)
                    · exfalso; omega
                    · refine rr_iload pf_25_121 rfl ?_
                      refine rr_goto 131 pf_25_123 (by decide) ?_
                      refine rr_iast pf_25_131 (ws_2 hW) (by omega) (by omega) (by simp only [rg, rl] at *; omega) hrarg (fun M6 eM6 => ?_)
                      have hE7 : px_eo [2] M0 M6 := eo_tr hE (by rw [eM6]; exact eo_up (by simp))
                      have hF8 : px_Fx M6 := by rw [eM6]; exact fx_up hW hF (ws_2 hW) (Or.inl (by rw [px_ty10]; decide))
                      have hG9 : px_RG sh M6 := by rw [eM6]; exact rg_up hG (ws_2 hW) (by rw [px_ty10]; decide) hrarg
                      refine rr_goto 293 pf_25_132 (by decide) ?_
                      refine rr_iinc pf_25_293 rfl (fun y => [.ref 1, .ref t, .int (iI (cl)), .int (iI (pt)), .ref va, .int (iI (mk)), .int (iI ((to : Int))), .int (iI (y2)), .int (iI (rs)), .int (iI (y)), .int (iI (op)), .int (iI (arg)), v12, v13]) (fun _ => rfl) (fun y10 hy10 => ?_)
                      refine rr_goto 34 pf_25_296 (by decide) ?_
                      obtain rfl : y10 = ((i + 1 : Nat) : Int) := by omega
                      obtain rfl : y2 = ((M0 (t + 2) i :: stk).length : Int) - 1 := by simp; omega
                      have E : evC (M0 (t + 1)) (M0 (t + 2)) (M0 va) nv (f + 1) i rs stk = evC (M0 (t + 1)) (M0 (t + 2)) (M0 va) nv f (i + 1) rs (M0 (t + 2) i :: stk) := by
                        simp only [evC]
                        rw [if_neg hrs2, if_pos (Or.inl (by rw [← hop]; exact q0)), if_neg (by rw [← hop]; omega), if_pos (by rw [← hop]; exact q0)]
                      rw [E]
                      exact ih (i + 1) rs (M0 (t + 2) i :: stk) M6 _ _ _ _ (by omega) hrs hF8 hG9 hE7 (by rw [eM6, show (((M0 (t + 2) i :: stk).length : Int) - 1).toNat = stk.length by simp, ← harg]; exact stk_push hst) (by simp; omega) (stkB_c (by rw [← harg]; omega) hsb)
                  · exfalso; omega
              · exfalso; omega
          by_cases q1 : op = 1
          · by_cases hfull : 51 ≤ stk.length
            · skip
              refine rr_iload pf_25_69 rfl ?_
              refine rr_if_eq 80 pf_25_71 (by decide) hrop (fun c1 => ?_) (fun c1 => ?_)
              · exfalso; omega
              · refine rr_iload pf_25_74 rfl ?_
                refine rr_iconst pf_25_76 ?_
                refine rr_icmp_ne 135 pf_25_77 (by decide) hrop (by simp only [rg, rl] at *; omega) (fun c2 => ?_) (fun c2 => ?_)
                · exfalso; omega
                · refine rr_iinc pf_25_80 rfl (fun y => [.ref 1, .ref t, .int (iI (cl)), .int (iI (pt)), .ref va, .int (iI (mk)), .int (iI ((to : Int))), .int (iI (y)), .int (iI (rs)), .int (iI ((i : Int))), .int (iI (op)), .int (iI (arg)), v12, v13]) (fun _ => rfl) (fun y3 hy3 => ?_)
                  refine rr_iload pf_25_83 rfl ?_
                  refine rr_aload_n pf_25_85 rfl ?_
                  refine rr_getR pf_25_86 po_25 pg_5_9 rfl (ws_1 hW) (by decide) (wr_1_0 hF) ?_
                  refine rr_alen pf_25_89 (ws_2 hW) (by decide) ?_
                  refine rr_icmp_ge 107 pf_25_90 (by decide) (by simp only [rg, rl] at *; omega) (by simp only [rg, rl] at *; omega) (fun c4 => ?_) (fun c4 => ?_)
                  · refine rr_ldc pf_25_107 po_25 pk_5_26 ?_
                    refine rr_iret pf_25_109 pt_25 ⟨by rw [show evC (M0 (t + 1)) (M0 (t + 2)) (M0 va) nv (f + 1) i rs stk = none by simp only [evC]; rw [if_neg hrs2, if_pos (Or.inr (by rw [← hop]; exact q1)), if_pos (Or.inl hfull)]]; rfl, _, rfl, hF, hG, hE⟩
                  · exfalso; omega
            · by_cases hnv : (nv : Int) ≤ arg
              · skip
                refine rr_iload pf_25_69 rfl ?_
                refine rr_if_eq 80 pf_25_71 (by decide) hrop (fun c1 => ?_) (fun c1 => ?_)
                · exfalso; omega
                · refine rr_iload pf_25_74 rfl ?_
                  refine rr_iconst pf_25_76 ?_
                  refine rr_icmp_ne 135 pf_25_77 (by decide) hrop (by simp only [rg, rl] at *; omega) (fun c2 => ?_) (fun c2 => ?_)
                  · exfalso; omega
                  · refine rr_iinc pf_25_80 rfl (fun y => [.ref 1, .ref t, .int (iI (cl)), .int (iI (pt)), .ref va, .int (iI (mk)), .int (iI ((to : Int))), .int (iI (y)), .int (iI (rs)), .int (iI ((i : Int))), .int (iI (op)), .int (iI (arg)), v12, v13]) (fun _ => rfl) (fun y3 hy3 => ?_)
                    refine rr_iload pf_25_83 rfl ?_
                    refine rr_aload_n pf_25_85 rfl ?_
                    refine rr_getR pf_25_86 po_25 pg_5_9 rfl (ws_1 hW) (by decide) (wr_1_0 hF) ?_
                    refine rr_alen pf_25_89 (ws_2 hW) (by decide) ?_
                    refine rr_icmp_ge 107 pf_25_90 (by decide) (by simp only [rg, rl] at *; omega) (by simp only [rg, rl] at *; omega) (fun c4 => ?_) (fun c4 => ?_)
                    · exfalso; omega
                    · refine rr_iload pf_25_93 rfl ?_
                      refine rr_iconst pf_25_95 ?_
                      refine rr_icmp_ne 110 pf_25_96 (by decide) hrop (by simp only [rg, rl] at *; omega) (fun c5 => ?_) (fun c5 => ?_)
                      · exfalso; omega
                      · refine rr_iload pf_25_99 rfl ?_
                        refine rr_aload pf_25_101 rfl ?_
                        refine rr_alen pf_25_103 hva (by decide) ?_
                        refine rr_icmp_lt 110 pf_25_104 (by decide) hrarg (by simp only [rg, rl] at *; omega) (fun c6 => ?_) (fun c6 => ?_)
                        · exfalso; omega
                        · refine rr_ldc pf_25_107 po_25 pk_5_26 ?_
                          refine rr_iret pf_25_109 pt_25 ⟨by rw [show evC (M0 (t + 1)) (M0 (t + 2)) (M0 va) nv (f + 1) i rs stk = none by simp only [evC]; rw [if_neg hrs2, if_pos (Or.inr (by rw [← hop]; exact q1)), if_pos (Or.inr ⟨by rw [← hop]; exact q1, by rw [← harg]; exact hnv⟩)]]; rfl, _, rfl, hF, hG, hE⟩
              · skip
                refine rr_iload pf_25_69 rfl ?_
                refine rr_if_eq 80 pf_25_71 (by decide) hrop (fun c1 => ?_) (fun c1 => ?_)
                · exfalso; omega
                · refine rr_iload pf_25_74 rfl ?_
                  refine rr_iconst pf_25_76 ?_
                  refine rr_icmp_ne 135 pf_25_77 (by decide) hrop (by simp only [rg, rl] at *; omega) (fun c2 => ?_) (fun c2 => ?_)
                  · exfalso; omega
                  · refine rr_iinc pf_25_80 rfl (fun y => [.ref 1, .ref t, .int (iI (cl)), .int (iI (pt)), .ref va, .int (iI (mk)), .int (iI ((to : Int))), .int (iI (y)), .int (iI (rs)), .int (iI ((i : Int))), .int (iI (op)), .int (iI (arg)), v12, v13]) (fun _ => rfl) (fun y3 hy3 => ?_)
                    refine rr_iload pf_25_83 rfl ?_
                    refine rr_aload_n pf_25_85 rfl ?_
                    refine rr_getR pf_25_86 po_25 pg_5_9 rfl (ws_1 hW) (by decide) (wr_1_0 hF) ?_
                    refine rr_alen pf_25_89 (ws_2 hW) (by decide) ?_
                    refine rr_icmp_ge 107 pf_25_90 (by decide) (by simp only [rg, rl] at *; omega) (by simp only [rg, rl] at *; omega) (fun c4 => ?_) (fun c4 => ?_)
                    · exfalso; omega
                    · refine rr_iload pf_25_93 rfl ?_
                      refine rr_iconst pf_25_95 ?_
                      refine rr_icmp_ne 110 pf_25_96 (by decide) hrop (by simp only [rg, rl] at *; omega) (fun c5 => ?_) (fun c5 => ?_)
                      · exfalso; omega
                      · refine rr_iload pf_25_99 rfl ?_
                        refine rr_aload pf_25_101 rfl ?_
                        refine rr_alen pf_25_103 hva (by decide) ?_
                        refine rr_icmp_lt 110 pf_25_104 (by decide) hrarg (by simp only [rg, rl] at *; omega) (fun c6 => ?_) (fun c6 => ?_)
                        · refine rr_aload_n pf_25_110 rfl ?_
                          refine rr_getR pf_25_111 po_25 pg_5_9 rfl (ws_1 hW) (by decide) (wr_1_0 hF) ?_
                          refine rr_iload pf_25_114 rfl ?_
                          refine rr_iload pf_25_116 rfl ?_
                          refine rr_if_ne 126 pf_25_118 (by decide) hrop (fun c7 => ?_) (fun c7 => ?_)
                          · refine rr_aload pf_25_126 rfl ?_
                            refine rr_iload pf_25_128 rfl ?_
                            refine rr_iald pf_25_130 hva (by omega) (by omega) hrarg ?_
                            refine rr_iast pf_25_131 (ws_2 hW) (by omega) (by omega) (by simp only [rg, rl] at *; omega) (rg_at hG hva (by rw [px_ty10]; decide)) (fun M8 eM8 => ?_)
                            have hE9 : px_eo [2] M0 M8 := eo_tr hE (by rw [eM8]; exact eo_up (by simp))
                            have hF10 : px_Fx M8 := by rw [eM8]; exact fx_up hW hF (ws_2 hW) (Or.inl (by rw [px_ty10]; decide))
                            have hG11 : px_RG sh M8 := by rw [eM8]; exact rg_up hG (ws_2 hW) (by rw [px_ty10]; decide) (rg_at hG hva (by rw [px_ty10]; decide))
                            refine rr_goto 293 pf_25_132 (by decide) ?_
                            refine rr_iinc pf_25_293 rfl (fun y => [.ref 1, .ref t, .int (iI (cl)), .int (iI (pt)), .ref va, .int (iI (mk)), .int (iI ((to : Int))), .int (iI (y3)), .int (iI (rs)), .int (iI (y)), .int (iI (op)), .int (iI (arg)), v12, v13]) (fun _ => rfl) (fun y12 hy12 => ?_)
                            refine rr_goto 34 pf_25_296 (by decide) ?_
                            obtain rfl : y12 = ((i + 1 : Nat) : Int) := by omega
                            obtain rfl : y3 = ((M0 va (M0 (t + 2) i).toNat :: stk).length : Int) - 1 := by simp; omega
                            have E : evC (M0 (t + 1)) (M0 (t + 2)) (M0 va) nv (f + 1) i rs stk = evC (M0 (t + 1)) (M0 (t + 2)) (M0 va) nv f (i + 1) rs (M0 va (M0 (t + 2) i).toNat :: stk) := by
                              simp only [evC]
                              rw [if_neg hrs2, if_pos (Or.inr (by rw [← hop]; exact q1)), if_neg (by rw [← hop, ← harg]; omega), if_neg (by rw [← hop]; omega)]
                            rw [E]
                            exact ih (i + 1) rs (M0 va (M0 (t + 2) i).toNat :: stk) M8 _ _ _ _ (by omega) hrs hF10 hG11 hE9 (by rw [eM8, show (((M0 va (M0 (t + 2) i).toNat :: stk).length : Int) - 1).toNat = stk.length by simp, ← harg, hE va (by simp; omega)]; exact stk_push hst) (by simp; omega) (stkB_c (by have := hvb (M0 (t + 2) i).toNat (by rw [← harg]; omega); omega) hsb)
                          · exfalso; omega
                        · exfalso; omega
          by_cases q4 : op ≤ 4
          · cases stk with
            | nil =>
              simp only [List.length_nil] at *
              refine rr_iload pf_25_69 rfl ?_
              refine rr_if_eq 80 pf_25_71 (by decide) hrop (fun c1 => ?_) (fun c1 => ?_)
              · exfalso; omega
              · refine rr_iload pf_25_74 rfl ?_
                refine rr_iconst pf_25_76 ?_
                refine rr_icmp_ne 135 pf_25_77 (by decide) hrop (by simp only [rg, rl] at *; omega) (fun c2 => ?_) (fun c2 => ?_)
                · refine rr_iload pf_25_135 rfl ?_
                  refine rr_iload pf_25_137 rfl ?_
                  refine rr_iconst pf_25_139 ?_
                  refine rr_icmp_gt 147 pf_25_140 (by decide) hrop (by simp only [rg, rl] at *; omega) (fun c3 => ?_) (fun c3 => ?_)
                  · exfalso; omega
                  · refine rr_iconst pf_25_143 ?_
                    refine rr_goto 148 pf_25_144 (by decide) ?_
                    refine rr_icmp_ge 154 pf_25_148 (by decide) (by simp only [rg, rl] at *; omega) (by simp only [rg, rl] at *; omega) (fun c4 => ?_) (fun c4 => ?_)
                    · exfalso; omega
                    · refine rr_ldc pf_25_151 po_25 pk_5_26 ?_
                      refine rr_iret pf_25_153 pt_25 ⟨by rw [show evC (M0 (t + 1)) (M0 (t + 2)) (M0 va) nv (f + 1) i rs [] = none by simp only [evC]; rw [if_neg hrs2, if_neg (by rw [← hop]; omega), if_pos (by rw [← hop]; omega)]]; rfl, _, rfl, hF, hG, hE⟩
                · exfalso; omega
            | cons x r =>
              have hx := stk_top hst
              have hlen : r.length < 51 := by simp at hsl; omega
              have hxb := stkB_h hsb
              have hxr : rg x := by rw [← hx]; exact rg_at hG (ws_2 hW) (by rw [px_ty10]; decide)
              rw [show ((x :: r).length : Int) - 1 = (r.length : Int) by simp]
              by_cases q2 : op = 2
              · skip
                refine rr_iload pf_25_69 rfl ?_
                refine rr_if_eq 80 pf_25_71 (by decide) hrop (fun c1 => ?_) (fun c1 => ?_)
                · exfalso; omega
                · refine rr_iload pf_25_74 rfl ?_
                  refine rr_iconst pf_25_76 ?_
                  refine rr_icmp_ne 135 pf_25_77 (by decide) hrop (by simp only [rg, rl] at *; omega) (fun c2 => ?_) (fun c2 => ?_)
                  · refine rr_iload pf_25_135 rfl ?_
                    refine rr_iload pf_25_137 rfl ?_
                    refine rr_iconst pf_25_139 ?_
                    refine rr_icmp_gt 147 pf_25_140 (by decide) hrop (by simp only [rg, rl] at *; omega) (fun c3 => ?_) (fun c3 => ?_)
                    · exfalso; omega
                    · refine rr_iconst pf_25_143 ?_
                      refine rr_goto 148 pf_25_144 (by decide) ?_
                      refine rr_icmp_ge 154 pf_25_148 (by decide) (by simp only [rg, rl] at *; omega) (by simp only [rg, rl] at *; omega) (fun c4 => ?_) (fun c4 => ?_)
                      · refine rr_iload pf_25_154 rfl ?_
                        refine rr_iconst pf_25_156 ?_
                        refine rr_icmp_ne 179 pf_25_157 (by decide) hrop (by simp only [rg, rl] at *; omega) (fun c5 => ?_) (fun c5 => ?_)
                        · exfalso; omega
                        · refine rr_aload_n pf_25_160 rfl ?_
                          refine rr_getR pf_25_161 po_25 pg_5_9 rfl (ws_1 hW) (by decide) (wr_1_0 hF) ?_
                          refine rr_iload pf_25_164 rfl ?_
                          refine rr_iconst pf_25_166 ?_
                          refine rr_aload_n pf_25_167 rfl ?_
                          refine rr_getR pf_25_168 po_25 pg_5_9 rfl (ws_1 hW) (by decide) (wr_1_0 hF) ?_
                          refine rr_iload pf_25_171 rfl ?_
                          refine rr_iald pf_25_173 (ws_2 hW) (by omega) (by omega) (by simp only [rg, rl] at *; omega) ?_
                          rw [show ((r.length : Int)).toNat = r.length from Int.toNat_natCast _, hx]
                          refine rr_isub pf_25_174 ?_
                          refine rr_iast pf_25_175 (ws_2 hW) (by omega) (by omega) (by simp only [rg, rl] at *; omega) (by simp only [rg, rl] at *; omega) (fun M6 eM6 => ?_)
                          have hE7 : px_eo [2] M0 M6 := eo_tr hE (by rw [eM6]; exact eo_up (by simp))
                          have hF8 : px_Fx M6 := by rw [eM6]; exact fx_up hW hF (ws_2 hW) (Or.inl (by rw [px_ty10]; decide))
                          have hG9 : px_RG sh M6 := by rw [eM6]; exact rg_up hG (ws_2 hW) (by rw [px_ty10]; decide) (by simp only [rg, rl] at *; omega)
                          refine rr_goto 293 pf_25_176 (by decide) ?_
                          refine rr_iinc pf_25_293 rfl (fun y => [.ref 1, .ref t, .int (iI (cl)), .int (iI (pt)), .ref va, .int (iI (mk)), .int (iI ((to : Int))), .int (iI ((r.length : Int))), .int (iI (rs)), .int (iI (y)), .int (iI (op)), .int (iI (arg)), v12, v13]) (fun _ => rfl) (fun y10 hy10 => ?_)
                          refine rr_goto 34 pf_25_296 (by decide) ?_
                          obtain rfl : y10 = ((i + 1 : Nat) : Int) := by omega
                          rw [show (r.length : Int) = (((1 - x) :: r).length : Int) - 1 by simp]
                          have E : evC (M0 (t + 1)) (M0 (t + 2)) (M0 va) nv (f + 1) i rs (x :: r) = evC (M0 (t + 1)) (M0 (t + 2)) (M0 va) nv f (i + 1) rs ((1 - x) :: r) := by
                            simp only [evC]
                            rw [if_neg hrs2, if_neg (by rw [← hop]; omega), if_pos (by rw [← hop]; omega), if_pos (by rw [← hop]; exact q2)]
                          rw [E]
                          exact ih (i + 1) rs ((1 - x) :: r) M6 _ _ _ _ (by omega) hrs hF8 hG9 hE7 (by rw [eM6, show ((r.length : Int)).toNat = r.length from Int.toNat_natCast _]; exact stk_push (stk_pop hst)) (by simp at hsl ⊢; omega) (stkB_c (by omega) (stkB_t hsb))
                      · exfalso; omega
                  · exfalso; omega
              · by_cases q3 : op = 3
                · by_cases x1 : x = 1
                  · skip
                    refine rr_iload pf_25_69 rfl ?_
                    refine rr_if_eq 80 pf_25_71 (by decide) hrop (fun c1 => ?_) (fun c1 => ?_)
                    · exfalso; omega
                    · refine rr_iload pf_25_74 rfl ?_
                      refine rr_iconst pf_25_76 ?_
                      refine rr_icmp_ne 135 pf_25_77 (by decide) hrop (by simp only [rg, rl] at *; omega) (fun c2 => ?_) (fun c2 => ?_)
                      · refine rr_iload pf_25_135 rfl ?_
                        refine rr_iload pf_25_137 rfl ?_
                        refine rr_iconst pf_25_139 ?_
                        refine rr_icmp_gt 147 pf_25_140 (by decide) hrop (by simp only [rg, rl] at *; omega) (fun c3 => ?_) (fun c3 => ?_)
                        · exfalso; omega
                        · refine rr_iconst pf_25_143 ?_
                          refine rr_goto 148 pf_25_144 (by decide) ?_
                          refine rr_icmp_ge 154 pf_25_148 (by decide) (by simp only [rg, rl] at *; omega) (by simp only [rg, rl] at *; omega) (fun c4 => ?_) (fun c4 => ?_)
                          · refine rr_iload pf_25_154 rfl ?_
                            refine rr_iconst pf_25_156 ?_
                            refine rr_icmp_ne 179 pf_25_157 (by decide) hrop (by simp only [rg, rl] at *; omega) (fun c5 => ?_) (fun c5 => ?_)
                            · refine rr_iload pf_25_179 rfl ?_
                              refine rr_iconst pf_25_181 ?_
                              refine rr_icmp_eq 191 pf_25_182 (by decide) hrop (by simp only [rg, rl] at *; omega) (fun c6 => ?_) (fun c6 => ?_)
                              · refine rr_aload_n pf_25_191 rfl ?_
                                refine rr_getR pf_25_192 po_25 pg_5_9 rfl (ws_1 hW) (by decide) (wr_1_0 hF) ?_
                                refine rr_iload pf_25_195 rfl ?_
                                refine rr_iald pf_25_197 (ws_2 hW) (by omega) (by omega) (by simp only [rg, rl] at *; omega) ?_
                                rw [show ((r.length : Int)).toNat = r.length from Int.toNat_natCast _, hx]
                                refine rr_iconst pf_25_198 ?_
                                refine rr_icmp_ne 206 pf_25_199 (by decide) (by simp only [rg, rl] at *; omega) (by simp only [rg, rl] at *; omega) (fun c7 => ?_) (fun c7 => ?_)
                                · exfalso; omega
                                · refine rr_iconst pf_25_202 ?_
                                  refine rr_goto 207 pf_25_203 (by decide) ?_
                                  refine rr_iload pf_25_207 rfl ?_
                                  refine rr_iconst pf_25_209 ?_
                                  refine rr_icmp_ne 217 pf_25_210 (by decide) hrop (by simp only [rg, rl] at *; omega) (fun c8 => ?_) (fun c8 => ?_)
                                  · refine rr_iconst pf_25_217 ?_
                                    refine rr_icmp_ne 228 pf_25_218 (by decide) (by simp only [rg, rl] at *; omega) (by simp only [rg, rl] at *; omega) (fun c9 => ?_) (fun c9 => ?_)
                                    · refine rr_iinc pf_25_228 rfl (fun y => [.ref 1, .ref t, .int (iI (cl)), .int (iI (pt)), .ref va, .int (iI (mk)), .int (iI ((to : Int))), .int (iI (y)), .int (iI (rs)), .int (iI ((i : Int))), .int (iI (op)), .int (iI (arg)), v12, v13]) (fun _ => rfl) (fun y10 hy10 => ?_)
                                      refine rr_goto 293 pf_25_231 (by decide) ?_
                                      refine rr_iinc pf_25_293 rfl (fun y => [.ref 1, .ref t, .int (iI (cl)), .int (iI (pt)), .ref va, .int (iI (mk)), .int (iI ((to : Int))), .int (iI (y10)), .int (iI (rs)), .int (iI (y)), .int (iI (op)), .int (iI (arg)), v12, v13]) (fun _ => rfl) (fun y11 hy11 => ?_)
                                      refine rr_goto 34 pf_25_296 (by decide) ?_
                                      obtain rfl : y11 = ((i + 1 : Nat) : Int) := by omega
                                      obtain rfl : y10 = (r.length : Int) - 1 := by omega
                                      have E : evC (M0 (t + 1)) (M0 (t + 2)) (M0 va) nv (f + 1) i rs (x :: r) = evC (M0 (t + 1)) (M0 (t + 2)) (M0 va) nv f (i + 1) rs r := by
                                        simp only [evC]
                                        rw [if_neg hrs2, if_neg (by rw [← hop]; omega), if_pos (by rw [← hop]; omega), if_neg (by rw [← hop]; omega), if_neg (by rw [← hop]; omega)]
                                      rw [E]
                                      exact ih (i + 1) rs r M _ _ _ _ (by omega) hrs hF hG hE (stk_pop hst) (by simp at hsl; omega) (stkB_t hsb)
                                    · exfalso; omega
                                  · exfalso; omega
                              · exfalso; omega
                            · exfalso; omega
                          · exfalso; omega
                      · exfalso; omega
                  · skip
                    refine rr_iload pf_25_69 rfl ?_
                    refine rr_if_eq 80 pf_25_71 (by decide) hrop (fun c1 => ?_) (fun c1 => ?_)
                    · exfalso; omega
                    · refine rr_iload pf_25_74 rfl ?_
                      refine rr_iconst pf_25_76 ?_
                      refine rr_icmp_ne 135 pf_25_77 (by decide) hrop (by simp only [rg, rl] at *; omega) (fun c2 => ?_) (fun c2 => ?_)
                      · refine rr_iload pf_25_135 rfl ?_
                        refine rr_iload pf_25_137 rfl ?_
                        refine rr_iconst pf_25_139 ?_
                        refine rr_icmp_gt 147 pf_25_140 (by decide) hrop (by simp only [rg, rl] at *; omega) (fun c3 => ?_) (fun c3 => ?_)
                        · exfalso; omega
                        · refine rr_iconst pf_25_143 ?_
                          refine rr_goto 148 pf_25_144 (by decide) ?_
                          refine rr_icmp_ge 154 pf_25_148 (by decide) (by simp only [rg, rl] at *; omega) (by simp only [rg, rl] at *; omega) (fun c4 => ?_) (fun c4 => ?_)
                          · refine rr_iload pf_25_154 rfl ?_
                            refine rr_iconst pf_25_156 ?_
                            refine rr_icmp_ne 179 pf_25_157 (by decide) hrop (by simp only [rg, rl] at *; omega) (fun c5 => ?_) (fun c5 => ?_)
                            · refine rr_iload pf_25_179 rfl ?_
                              refine rr_iconst pf_25_181 ?_
                              refine rr_icmp_eq 191 pf_25_182 (by decide) hrop (by simp only [rg, rl] at *; omega) (fun c6 => ?_) (fun c6 => ?_)
                              · refine rr_aload_n pf_25_191 rfl ?_
                                refine rr_getR pf_25_192 po_25 pg_5_9 rfl (ws_1 hW) (by decide) (wr_1_0 hF) ?_
                                refine rr_iload pf_25_195 rfl ?_
                                refine rr_iald pf_25_197 (ws_2 hW) (by omega) (by omega) (by simp only [rg, rl] at *; omega) ?_
                                rw [show ((r.length : Int)).toNat = r.length from Int.toNat_natCast _, hx]
                                refine rr_iconst pf_25_198 ?_
                                refine rr_icmp_ne 206 pf_25_199 (by decide) (by simp only [rg, rl] at *; omega) (by simp only [rg, rl] at *; omega) (fun c7 => ?_) (fun c7 => ?_)
                                · refine rr_iconst pf_25_206 ?_
                                  refine rr_iload pf_25_207 rfl ?_
                                  refine rr_iconst pf_25_209 ?_
                                  refine rr_icmp_ne 217 pf_25_210 (by decide) hrop (by simp only [rg, rl] at *; omega) (fun c8 => ?_) (fun c8 => ?_)
                                  · refine rr_iconst pf_25_217 ?_
                                    refine rr_icmp_ne 228 pf_25_218 (by decide) (by simp only [rg, rl] at *; omega) (by simp only [rg, rl] at *; omega) (fun c9 => ?_) (fun c9 => ?_)
                                    · exfalso; omega
                                    · refine rr_iload pf_25_221 rfl ?_
                                      refine rr_istore pf_25_223 (fun y => [.ref 1, .ref t, .int (iI (cl)), .int (iI (pt)), .ref va, .int (iI (mk)), .int (iI ((to : Int))), .int (iI ((r.length : Int))), .int (iI (y)), .int (iI ((i : Int))), .int (iI (op)), .int (iI (arg)), v12, v13]) (Nat.le_of_ble_eq_true rfl) (fun _ => rfl) (fun y10 hy10 => ?_)
                                      refine rr_goto 293 pf_25_225 (by decide) ?_
                                      refine rr_iinc pf_25_293 rfl (fun y => [.ref 1, .ref t, .int (iI (cl)), .int (iI (pt)), .ref va, .int (iI (mk)), .int (iI ((to : Int))), .int (iI ((r.length : Int))), .int (iI (y10)), .int (iI (y)), .int (iI (op)), .int (iI (arg)), v12, v13]) (fun _ => rfl) (fun y11 hy11 => ?_)
                                      refine rr_goto 34 pf_25_296 (by decide) ?_
                                      obtain rfl : y11 = ((i + 1 : Nat) : Int) := by omega
                                      obtain rfl : y10 = M0 (t + 2) i := by omega
                                      rw [show (r.length : Int) = ((x :: r).length : Int) - 1 by simp]
                                      have E : evC (M0 (t + 1)) (M0 (t + 2)) (M0 va) nv (f + 1) i rs (x :: r) = evC (M0 (t + 1)) (M0 (t + 2)) (M0 va) nv f (i + 1) (M0 (t + 2) i) (x :: r) := by
                                        simp only [evC]
                                        rw [if_neg hrs2, if_neg (by rw [← hop]; omega), if_pos (by rw [← hop]; omega), if_neg (by rw [← hop]; omega), if_pos (by rw [← hop]; first | exact Or.inl ⟨by omega, by omega⟩ | exact Or.inr ⟨by omega, by omega⟩)]
                                      rw [E]
                                      exact ih (i + 1) (M0 (t + 2) i) (x :: r) M _ _ _ _ (by omega) (by rw [← harg]; exact hrarg) hF hG hE hst hsl hsb
                                  · exfalso; omega
                                · exfalso; omega
                              · exfalso; omega
                            · exfalso; omega
                          · exfalso; omega
                      · exfalso; omega
                · have q5 : op = 4 := by have := hops0 i (by omega); omega
                  by_cases x1 : x = 1
                  · skip
                    refine rr_iload pf_25_69 rfl ?_
                    refine rr_if_eq 80 pf_25_71 (by decide) hrop (fun c1 => ?_) (fun c1 => ?_)
                    · exfalso; omega
                    · refine rr_iload pf_25_74 rfl ?_
                      refine rr_iconst pf_25_76 ?_
                      refine rr_icmp_ne 135 pf_25_77 (by decide) hrop (by simp only [rg, rl] at *; omega) (fun c2 => ?_) (fun c2 => ?_)
                      · refine rr_iload pf_25_135 rfl ?_
                        refine rr_iload pf_25_137 rfl ?_
                        refine rr_iconst pf_25_139 ?_
                        refine rr_icmp_gt 147 pf_25_140 (by decide) hrop (by simp only [rg, rl] at *; omega) (fun c3 => ?_) (fun c3 => ?_)
                        · exfalso; omega
                        · refine rr_iconst pf_25_143 ?_
                          refine rr_goto 148 pf_25_144 (by decide) ?_
                          refine rr_icmp_ge 154 pf_25_148 (by decide) (by simp only [rg, rl] at *; omega) (by simp only [rg, rl] at *; omega) (fun c4 => ?_) (fun c4 => ?_)
                          · refine rr_iload pf_25_154 rfl ?_
                            refine rr_iconst pf_25_156 ?_
                            refine rr_icmp_ne 179 pf_25_157 (by decide) hrop (by simp only [rg, rl] at *; omega) (fun c5 => ?_) (fun c5 => ?_)
                            · refine rr_iload pf_25_179 rfl ?_
                              refine rr_iconst pf_25_181 ?_
                              refine rr_icmp_eq 191 pf_25_182 (by decide) hrop (by simp only [rg, rl] at *; omega) (fun c6 => ?_) (fun c6 => ?_)
                              · exfalso; omega
                              · refine rr_iload pf_25_185 rfl ?_
                                refine rr_iconst pf_25_187 ?_
                                refine rr_icmp_ne 234 pf_25_188 (by decide) hrop (by simp only [rg, rl] at *; omega) (fun c7 => ?_) (fun c7 => ?_)
                                · exfalso; omega
                                · refine rr_aload_n pf_25_191 rfl ?_
                                  refine rr_getR pf_25_192 po_25 pg_5_9 rfl (ws_1 hW) (by decide) (wr_1_0 hF) ?_
                                  refine rr_iload pf_25_195 rfl ?_
                                  refine rr_iald pf_25_197 (ws_2 hW) (by omega) (by omega) (by simp only [rg, rl] at *; omega) ?_
                                  rw [show ((r.length : Int)).toNat = r.length from Int.toNat_natCast _, hx]
                                  refine rr_iconst pf_25_198 ?_
                                  refine rr_icmp_ne 206 pf_25_199 (by decide) (by simp only [rg, rl] at *; omega) (by simp only [rg, rl] at *; omega) (fun c8 => ?_) (fun c8 => ?_)
                                  · exfalso; omega
                                  · refine rr_iconst pf_25_202 ?_
                                    refine rr_goto 207 pf_25_203 (by decide) ?_
                                    refine rr_iload pf_25_207 rfl ?_
                                    refine rr_iconst pf_25_209 ?_
                                    refine rr_icmp_ne 217 pf_25_210 (by decide) hrop (by simp only [rg, rl] at *; omega) (fun c9 => ?_) (fun c9 => ?_)
                                    · exfalso; omega
                                    · refine rr_iconst pf_25_213 ?_
                                      refine rr_goto 218 pf_25_214 (by decide) ?_
                                      refine rr_icmp_ne 228 pf_25_218 (by decide) (by simp only [rg, rl] at *; omega) (by simp only [rg, rl] at *; omega) (fun c10 => ?_) (fun c10 => ?_)
                                      · exfalso; omega
                                      · refine rr_iload pf_25_221 rfl ?_
                                        refine rr_istore pf_25_223 (fun y => [.ref 1, .ref t, .int (iI (cl)), .int (iI (pt)), .ref va, .int (iI (mk)), .int (iI ((to : Int))), .int (iI ((r.length : Int))), .int (iI (y)), .int (iI ((i : Int))), .int (iI (op)), .int (iI (arg)), v12, v13]) (Nat.le_of_ble_eq_true rfl) (fun _ => rfl) (fun y11 hy11 => ?_)
                                        refine rr_goto 293 pf_25_225 (by decide) ?_
                                        refine rr_iinc pf_25_293 rfl (fun y => [.ref 1, .ref t, .int (iI (cl)), .int (iI (pt)), .ref va, .int (iI (mk)), .int (iI ((to : Int))), .int (iI ((r.length : Int))), .int (iI (y11)), .int (iI (y)), .int (iI (op)), .int (iI (arg)), v12, v13]) (fun _ => rfl) (fun y12 hy12 => ?_)
                                        refine rr_goto 34 pf_25_296 (by decide) ?_
                                        obtain rfl : y12 = ((i + 1 : Nat) : Int) := by omega
                                        obtain rfl : y11 = M0 (t + 2) i := by omega
                                        rw [show (r.length : Int) = ((x :: r).length : Int) - 1 by simp]
                                        have E : evC (M0 (t + 1)) (M0 (t + 2)) (M0 va) nv (f + 1) i rs (x :: r) = evC (M0 (t + 1)) (M0 (t + 2)) (M0 va) nv f (i + 1) (M0 (t + 2) i) (x :: r) := by
                                          simp only [evC]
                                          rw [if_neg hrs2, if_neg (by rw [← hop]; omega), if_pos (by rw [← hop]; omega), if_neg (by rw [← hop]; omega), if_pos (by rw [← hop]; first | exact Or.inl ⟨by omega, by omega⟩ | exact Or.inr ⟨by omega, by omega⟩)]
                                        rw [E]
                                        exact ih (i + 1) (M0 (t + 2) i) (x :: r) M _ _ _ _ (by omega) (by rw [← harg]; exact hrarg) hF hG hE hst hsl hsb
                            · exfalso; omega
                          · exfalso; omega
                      · exfalso; omega
                  · skip
                    refine rr_iload pf_25_69 rfl ?_
                    refine rr_if_eq 80 pf_25_71 (by decide) hrop (fun c1 => ?_) (fun c1 => ?_)
                    · exfalso; omega
                    · refine rr_iload pf_25_74 rfl ?_
                      refine rr_iconst pf_25_76 ?_
                      refine rr_icmp_ne 135 pf_25_77 (by decide) hrop (by simp only [rg, rl] at *; omega) (fun c2 => ?_) (fun c2 => ?_)
                      · refine rr_iload pf_25_135 rfl ?_
                        refine rr_iload pf_25_137 rfl ?_
                        refine rr_iconst pf_25_139 ?_
                        refine rr_icmp_gt 147 pf_25_140 (by decide) hrop (by simp only [rg, rl] at *; omega) (fun c3 => ?_) (fun c3 => ?_)
                        · exfalso; omega
                        · refine rr_iconst pf_25_143 ?_
                          refine rr_goto 148 pf_25_144 (by decide) ?_
                          refine rr_icmp_ge 154 pf_25_148 (by decide) (by simp only [rg, rl] at *; omega) (by simp only [rg, rl] at *; omega) (fun c4 => ?_) (fun c4 => ?_)
                          · refine rr_iload pf_25_154 rfl ?_
                            refine rr_iconst pf_25_156 ?_
                            refine rr_icmp_ne 179 pf_25_157 (by decide) hrop (by simp only [rg, rl] at *; omega) (fun c5 => ?_) (fun c5 => ?_)
                            · refine rr_iload pf_25_179 rfl ?_
                              refine rr_iconst pf_25_181 ?_
                              refine rr_icmp_eq 191 pf_25_182 (by decide) hrop (by simp only [rg, rl] at *; omega) (fun c6 => ?_) (fun c6 => ?_)
                              · exfalso; omega
                              · refine rr_iload pf_25_185 rfl ?_
                                refine rr_iconst pf_25_187 ?_
                                refine rr_icmp_ne 234 pf_25_188 (by decide) hrop (by simp only [rg, rl] at *; omega) (fun c7 => ?_) (fun c7 => ?_)
                                · exfalso; omega
                                · refine rr_aload_n pf_25_191 rfl ?_
                                  refine rr_getR pf_25_192 po_25 pg_5_9 rfl (ws_1 hW) (by decide) (wr_1_0 hF) ?_
                                  refine rr_iload pf_25_195 rfl ?_
                                  refine rr_iald pf_25_197 (ws_2 hW) (by omega) (by omega) (by simp only [rg, rl] at *; omega) ?_
                                  rw [show ((r.length : Int)).toNat = r.length from Int.toNat_natCast _, hx]
                                  refine rr_iconst pf_25_198 ?_
                                  refine rr_icmp_ne 206 pf_25_199 (by decide) (by simp only [rg, rl] at *; omega) (by simp only [rg, rl] at *; omega) (fun c8 => ?_) (fun c8 => ?_)
                                  · refine rr_iconst pf_25_206 ?_
                                    refine rr_iload pf_25_207 rfl ?_
                                    refine rr_iconst pf_25_209 ?_
                                    refine rr_icmp_ne 217 pf_25_210 (by decide) hrop (by simp only [rg, rl] at *; omega) (fun c9 => ?_) (fun c9 => ?_)
                                    · exfalso; omega
                                    · refine rr_iconst pf_25_213 ?_
                                      refine rr_goto 218 pf_25_214 (by decide) ?_
                                      refine rr_icmp_ne 228 pf_25_218 (by decide) (by simp only [rg, rl] at *; omega) (by simp only [rg, rl] at *; omega) (fun c10 => ?_) (fun c10 => ?_)
                                      · refine rr_iinc pf_25_228 rfl (fun y => [.ref 1, .ref t, .int (iI (cl)), .int (iI (pt)), .ref va, .int (iI (mk)), .int (iI ((to : Int))), .int (iI (y)), .int (iI (rs)), .int (iI ((i : Int))), .int (iI (op)), .int (iI (arg)), v12, v13]) (fun _ => rfl) (fun y11 hy11 => ?_)
                                        refine rr_goto 293 pf_25_231 (by decide) ?_
                                        refine rr_iinc pf_25_293 rfl (fun y => [.ref 1, .ref t, .int (iI (cl)), .int (iI (pt)), .ref va, .int (iI (mk)), .int (iI ((to : Int))), .int (iI (y11)), .int (iI (rs)), .int (iI (y)), .int (iI (op)), .int (iI (arg)), v12, v13]) (fun _ => rfl) (fun y12 hy12 => ?_)
                                        refine rr_goto 34 pf_25_296 (by decide) ?_
                                        obtain rfl : y12 = ((i + 1 : Nat) : Int) := by omega
                                        obtain rfl : y11 = (r.length : Int) - 1 := by omega
                                        have E : evC (M0 (t + 1)) (M0 (t + 2)) (M0 va) nv (f + 1) i rs (x :: r) = evC (M0 (t + 1)) (M0 (t + 2)) (M0 va) nv f (i + 1) rs r := by
                                          simp only [evC]
                                          rw [if_neg hrs2, if_neg (by rw [← hop]; omega), if_pos (by rw [← hop]; omega), if_neg (by rw [← hop]; omega), if_neg (by rw [← hop]; omega)]
                                        rw [E]
                                        exact ih (i + 1) rs r M _ _ _ _ (by omega) hrs hF hG hE (stk_pop hst) (by simp at hsl; omega) (stkB_t hsb)
                                      · exfalso; omega
                                  · exfalso; omega
                            · exfalso; omega
                          · exfalso; omega
                      · exfalso; omega
          · cases stk with
            | nil =>
              simp only [List.length_nil] at *
              refine rr_iload pf_25_69 rfl ?_
              refine rr_if_eq 80 pf_25_71 (by decide) hrop (fun c1 => ?_) (fun c1 => ?_)
              · exfalso; omega
              · refine rr_iload pf_25_74 rfl ?_
                refine rr_iconst pf_25_76 ?_
                refine rr_icmp_ne 135 pf_25_77 (by decide) hrop (by simp only [rg, rl] at *; omega) (fun c2 => ?_) (fun c2 => ?_)
                · refine rr_iload pf_25_135 rfl ?_
                  refine rr_iload pf_25_137 rfl ?_
                  refine rr_iconst pf_25_139 ?_
                  refine rr_icmp_gt 147 pf_25_140 (by decide) hrop (by simp only [rg, rl] at *; omega) (fun c3 => ?_) (fun c3 => ?_)
                  · refine rr_iconst pf_25_147 ?_
                    refine rr_icmp_ge 154 pf_25_148 (by decide) (by simp only [rg, rl] at *; omega) (by simp only [rg, rl] at *; omega) (fun c4 => ?_) (fun c4 => ?_)
                    · exfalso; omega
                    · refine rr_ldc pf_25_151 po_25 pk_5_26 ?_
                      refine rr_iret pf_25_153 pt_25 ⟨by rw [show evC (M0 (t + 1)) (M0 (t + 2)) (M0 va) nv (f + 1) i rs [] = none by simp only [evC]; rw [if_neg hrs2, if_neg (by rw [← hop]; omega), if_neg (by rw [← hop]; omega)]]; rfl, _, rfl, hF, hG, hE⟩
                  · exfalso; omega
                · exfalso; omega
            | cons y r0 =>
              cases r0 with
              | nil =>
                simp only [List.length_cons, List.length_nil] at *
                refine rr_iload pf_25_69 rfl ?_
                refine rr_if_eq 80 pf_25_71 (by decide) hrop (fun c1 => ?_) (fun c1 => ?_)
                · exfalso; omega
                · refine rr_iload pf_25_74 rfl ?_
                  refine rr_iconst pf_25_76 ?_
                  refine rr_icmp_ne 135 pf_25_77 (by decide) hrop (by simp only [rg, rl] at *; omega) (fun c2 => ?_) (fun c2 => ?_)
                  · refine rr_iload pf_25_135 rfl ?_
                    refine rr_iload pf_25_137 rfl ?_
                    refine rr_iconst pf_25_139 ?_
                    refine rr_icmp_gt 147 pf_25_140 (by decide) hrop (by simp only [rg, rl] at *; omega) (fun c3 => ?_) (fun c3 => ?_)
                    · refine rr_iconst pf_25_147 ?_
                      refine rr_icmp_ge 154 pf_25_148 (by decide) (by simp only [rg, rl] at *; omega) (by simp only [rg, rl] at *; omega) (fun c4 => ?_) (fun c4 => ?_)
                      · exfalso; omega
                      · refine rr_ldc pf_25_151 po_25 pk_5_26 ?_
                        refine rr_iret pf_25_153 pt_25 ⟨by rw [show evC (M0 (t + 1)) (M0 (t + 2)) (M0 va) nv (f + 1) i rs [y] = none by simp only [evC]; rw [if_neg hrs2, if_neg (by rw [← hop]; omega), if_neg (by rw [← hop]; omega)]]; rfl, _, rfl, hF, hG, hE⟩
                    · exfalso; omega
                  · exfalso; omega
              | cons x r =>
                have hy := stk_top hst
                have hx := stk_top (stk_pop hst)
                have hlen : r.length < 50 := by simp at hsl; omega
                have hyr : rg y := by rw [← hy]; exact rg_at hG (ws_2 hW) (by rw [px_ty10]; decide)
                have hxr : rg x := by rw [← hx]; exact rg_at hG (ws_2 hW) (by rw [px_ty10]; decide)
                have hjl := sp_join_rl (op := op) hxr hyr
                simp only [List.length_cons] at hy
                rw [show ((y :: x :: r).length : Int) - 1 = (r.length : Int) + 1 by simp]
                by_cases j1 : 1000000000 < sp_join op x y
                · skip
                  refine rr_iload pf_25_69 rfl ?_
                  refine rr_if_eq 80 pf_25_71 (by decide) hrop (fun c1 => ?_) (fun c1 => ?_)
                  · exfalso; omega
                  · refine rr_iload pf_25_74 rfl ?_
                    refine rr_iconst pf_25_76 ?_
                    refine rr_icmp_ne 135 pf_25_77 (by decide) hrop (by simp only [rg, rl] at *; omega) (fun c2 => ?_) (fun c2 => ?_)
                    · refine rr_iload pf_25_135 rfl ?_
                      refine rr_iload pf_25_137 rfl ?_
                      refine rr_iconst pf_25_139 ?_
                      refine rr_icmp_gt 147 pf_25_140 (by decide) hrop (by simp only [rg, rl] at *; omega) (fun c3 => ?_) (fun c3 => ?_)
                      · refine rr_iconst pf_25_147 ?_
                        refine rr_icmp_ge 154 pf_25_148 (by decide) (by simp only [rg, rl] at *; omega) (by simp only [rg, rl] at *; omega) (fun c4 => ?_) (fun c4 => ?_)
                        · refine rr_iload pf_25_154 rfl ?_
                          refine rr_iconst pf_25_156 ?_
                          refine rr_icmp_ne 179 pf_25_157 (by decide) hrop (by simp only [rg, rl] at *; omega) (fun c5 => ?_) (fun c5 => ?_)
                          · refine rr_iload pf_25_179 rfl ?_
                            refine rr_iconst pf_25_181 ?_
                            refine rr_icmp_eq 191 pf_25_182 (by decide) hrop (by simp only [rg, rl] at *; omega) (fun c6 => ?_) (fun c6 => ?_)
                            · exfalso; omega
                            · refine rr_iload pf_25_185 rfl ?_
                              refine rr_iconst pf_25_187 ?_
                              refine rr_icmp_ne 234 pf_25_188 (by decide) hrop (by simp only [rg, rl] at *; omega) (fun c7 => ?_) (fun c7 => ?_)
                              · refine rr_iinc pf_25_234 rfl (fun y => [.ref 1, .ref t, .int (iI (cl)), .int (iI (pt)), .ref va, .int (iI (mk)), .int (iI ((to : Int))), .int (iI (y)), .int (iI (rs)), .int (iI ((i : Int))), .int (iI (op)), .int (iI (arg)), v12, v13]) (fun _ => rfl) (fun y8 hy8 => ?_)
                                refine rr_iload pf_25_237 rfl ?_
                                refine rr_aload_n pf_25_239 rfl ?_
                                refine rr_getR pf_25_240 po_25 pg_5_9 rfl (ws_1 hW) (by decide) (wr_1_0 hF) ?_
                                refine rr_iload pf_25_243 rfl ?_
                                refine rr_iald pf_25_245 (ws_2 hW) (by omega) (by omega) (by simp only [rg, rl] at *; omega) ?_
                                rw [show (y8).toNat = r.length by omega, hx]
                                refine rr_i2l pf_25_246 (by simp only [rg, rl] at *; omega) ?_
                                refine rr_aload_n pf_25_247 rfl ?_
                                refine rr_getR pf_25_248 po_25 pg_5_9 rfl (ws_1 hW) (by decide) (wr_1_0 hF) ?_
                                refine rr_iload pf_25_251 rfl ?_
                                refine rr_iconst pf_25_253 ?_
                                refine rr_iadd pf_25_254 ?_
                                refine rr_iald pf_25_255 (ws_2 hW) (by omega) (by omega) (by simp only [rg, rl] at *; omega) ?_
                                rw [show (y8 + 1).toNat = r.length + 1 by omega, hy]
                                refine rr_i2l pf_25_256 (by simp only [rg, rl] at *; omega) ?_
                                refine rr_cS3 pf_25_257 po_25 pc_5_27 (by decide) rfl (ct_Sums_join (by omega) hrop (by simp only [rg, rl] at *; omega) (by simp only [rg, rl] at *; omega)) ?_
                                refine rr_lstore pf_25_260 (fun y => [.ref 1, .ref t, .int (iI (cl)), .int (iI (pt)), .ref va, .int (iI (mk)), .int (iI ((to : Int))), .int (iI (y8)), .int (iI (rs)), .int (iI ((i : Int))), .int (iI (op)), .int (iI (arg)), .long (lI (y)), px_jk]) (Nat.le_of_ble_eq_true rfl) (fun _ => rfl) (fun y9 hy9 => ?_)
                                refine rr_lload pf_25_262 rfl ?_
                                refine rr_ldc2_w pf_25_264 po_25 pl_5_31 ?_
                                refine rr_lcmp pf_25_267 (by simp only [rg, rl] at *; omega) (by simp only [rg, rl] at *; omega) ?_
                                refine rr_ifc_gt 280 pf_25_268 (by decide) (fun c10 => ?_) (fun c10 => ?_)
                                · refine rr_ldc pf_25_280 po_25 pk_5_26 ?_
                                  refine rr_iret pf_25_282 pt_25 ⟨by rw [show evC (M0 (t + 1)) (M0 (t + 2)) (M0 va) nv (f + 1) i rs (y :: x :: r) = none by simp only [evC]; rw [if_neg hrs2, if_neg (by rw [← hop]; omega), if_neg (by rw [← hop]; omega), if_pos (by rw [← hop]; omega)]]; rfl, _, rfl, hF, hG, hE⟩
                                · exfalso; omega
                              · exfalso; omega
                          · exfalso; omega
                        · exfalso; omega
                      · exfalso; omega
                    · exfalso; omega
                · by_cases j2 : sp_join op x y < -1000000000
                  · skip
                    refine rr_iload pf_25_69 rfl ?_
                    refine rr_if_eq 80 pf_25_71 (by decide) hrop (fun c1 => ?_) (fun c1 => ?_)
                    · exfalso; omega
                    · refine rr_iload pf_25_74 rfl ?_
                      refine rr_iconst pf_25_76 ?_
                      refine rr_icmp_ne 135 pf_25_77 (by decide) hrop (by simp only [rg, rl] at *; omega) (fun c2 => ?_) (fun c2 => ?_)
                      · refine rr_iload pf_25_135 rfl ?_
                        refine rr_iload pf_25_137 rfl ?_
                        refine rr_iconst pf_25_139 ?_
                        refine rr_icmp_gt 147 pf_25_140 (by decide) hrop (by simp only [rg, rl] at *; omega) (fun c3 => ?_) (fun c3 => ?_)
                        · refine rr_iconst pf_25_147 ?_
                          refine rr_icmp_ge 154 pf_25_148 (by decide) (by simp only [rg, rl] at *; omega) (by simp only [rg, rl] at *; omega) (fun c4 => ?_) (fun c4 => ?_)
                          · refine rr_iload pf_25_154 rfl ?_
                            refine rr_iconst pf_25_156 ?_
                            refine rr_icmp_ne 179 pf_25_157 (by decide) hrop (by simp only [rg, rl] at *; omega) (fun c5 => ?_) (fun c5 => ?_)
                            · refine rr_iload pf_25_179 rfl ?_
                              refine rr_iconst pf_25_181 ?_
                              refine rr_icmp_eq 191 pf_25_182 (by decide) hrop (by simp only [rg, rl] at *; omega) (fun c6 => ?_) (fun c6 => ?_)
                              · exfalso; omega
                              · refine rr_iload pf_25_185 rfl ?_
                                refine rr_iconst pf_25_187 ?_
                                refine rr_icmp_ne 234 pf_25_188 (by decide) hrop (by simp only [rg, rl] at *; omega) (fun c7 => ?_) (fun c7 => ?_)
                                · refine rr_iinc pf_25_234 rfl (fun y => [.ref 1, .ref t, .int (iI (cl)), .int (iI (pt)), .ref va, .int (iI (mk)), .int (iI ((to : Int))), .int (iI (y)), .int (iI (rs)), .int (iI ((i : Int))), .int (iI (op)), .int (iI (arg)), v12, v13]) (fun _ => rfl) (fun y8 hy8 => ?_)
                                  refine rr_iload pf_25_237 rfl ?_
                                  refine rr_aload_n pf_25_239 rfl ?_
                                  refine rr_getR pf_25_240 po_25 pg_5_9 rfl (ws_1 hW) (by decide) (wr_1_0 hF) ?_
                                  refine rr_iload pf_25_243 rfl ?_
                                  refine rr_iald pf_25_245 (ws_2 hW) (by omega) (by omega) (by simp only [rg, rl] at *; omega) ?_
                                  rw [show (y8).toNat = r.length by omega, hx]
                                  refine rr_i2l pf_25_246 (by simp only [rg, rl] at *; omega) ?_
                                  refine rr_aload_n pf_25_247 rfl ?_
                                  refine rr_getR pf_25_248 po_25 pg_5_9 rfl (ws_1 hW) (by decide) (wr_1_0 hF) ?_
                                  refine rr_iload pf_25_251 rfl ?_
                                  refine rr_iconst pf_25_253 ?_
                                  refine rr_iadd pf_25_254 ?_
                                  refine rr_iald pf_25_255 (ws_2 hW) (by omega) (by omega) (by simp only [rg, rl] at *; omega) ?_
                                  rw [show (y8 + 1).toNat = r.length + 1 by omega, hy]
                                  refine rr_i2l pf_25_256 (by simp only [rg, rl] at *; omega) ?_
                                  refine rr_cS3 pf_25_257 po_25 pc_5_27 (by decide) rfl (ct_Sums_join (by omega) hrop (by simp only [rg, rl] at *; omega) (by simp only [rg, rl] at *; omega)) ?_
                                  refine rr_lstore pf_25_260 (fun y => [.ref 1, .ref t, .int (iI (cl)), .int (iI (pt)), .ref va, .int (iI (mk)), .int (iI ((to : Int))), .int (iI (y8)), .int (iI (rs)), .int (iI ((i : Int))), .int (iI (op)), .int (iI (arg)), .long (lI (y)), px_jk]) (Nat.le_of_ble_eq_true rfl) (fun _ => rfl) (fun y9 hy9 => ?_)
                                  refine rr_lload pf_25_262 rfl ?_
                                  refine rr_ldc2_w pf_25_264 po_25 pl_5_31 ?_
                                  refine rr_lcmp pf_25_267 (by simp only [rg, rl] at *; omega) (by simp only [rg, rl] at *; omega) ?_
                                  refine rr_ifc_gt 280 pf_25_268 (by decide) (fun c10 => ?_) (fun c10 => ?_)
                                  · exfalso; omega
                                  · refine rr_lload pf_25_271 rfl ?_
                                    refine rr_ldc2_w pf_25_273 po_25 pl_5_33 ?_
                                    refine rr_lcmp pf_25_276 (by simp only [rg, rl] at *; omega) (by simp only [rg, rl] at *; omega) ?_
                                    refine rr_ifc_ge 283 pf_25_277 (by decide) (fun c11 => ?_) (fun c11 => ?_)
                                    · exfalso; omega
                                    · refine rr_ldc pf_25_280 po_25 pk_5_26 ?_
                                      refine rr_iret pf_25_282 pt_25 ⟨by rw [show evC (M0 (t + 1)) (M0 (t + 2)) (M0 va) nv (f + 1) i rs (y :: x :: r) = none by simp only [evC]; rw [if_neg hrs2, if_neg (by rw [← hop]; omega), if_neg (by rw [← hop]; omega), if_pos (by rw [← hop]; omega)]]; rfl, _, rfl, hF, hG, hE⟩
                                · exfalso; omega
                            · exfalso; omega
                          · exfalso; omega
                        · exfalso; omega
                      · exfalso; omega
                  · skip
                    refine rr_iload pf_25_69 rfl ?_
                    refine rr_if_eq 80 pf_25_71 (by decide) hrop (fun c1 => ?_) (fun c1 => ?_)
                    · exfalso; omega
                    · refine rr_iload pf_25_74 rfl ?_
                      refine rr_iconst pf_25_76 ?_
                      refine rr_icmp_ne 135 pf_25_77 (by decide) hrop (by simp only [rg, rl] at *; omega) (fun c2 => ?_) (fun c2 => ?_)
                      · refine rr_iload pf_25_135 rfl ?_
                        refine rr_iload pf_25_137 rfl ?_
                        refine rr_iconst pf_25_139 ?_
                        refine rr_icmp_gt 147 pf_25_140 (by decide) hrop (by simp only [rg, rl] at *; omega) (fun c3 => ?_) (fun c3 => ?_)
                        · refine rr_iconst pf_25_147 ?_
                          refine rr_icmp_ge 154 pf_25_148 (by decide) (by simp only [rg, rl] at *; omega) (by simp only [rg, rl] at *; omega) (fun c4 => ?_) (fun c4 => ?_)
                          · refine rr_iload pf_25_154 rfl ?_
                            refine rr_iconst pf_25_156 ?_
                            refine rr_icmp_ne 179 pf_25_157 (by decide) hrop (by simp only [rg, rl] at *; omega) (fun c5 => ?_) (fun c5 => ?_)
                            · refine rr_iload pf_25_179 rfl ?_
                              refine rr_iconst pf_25_181 ?_
                              refine rr_icmp_eq 191 pf_25_182 (by decide) hrop (by simp only [rg, rl] at *; omega) (fun c6 => ?_) (fun c6 => ?_)
                              · exfalso; omega
                              · refine rr_iload pf_25_185 rfl ?_
                                refine rr_iconst pf_25_187 ?_
                                refine rr_icmp_ne 234 pf_25_188 (by decide) hrop (by simp only [rg, rl] at *; omega) (fun c7 => ?_) (fun c7 => ?_)
                                · refine rr_iinc pf_25_234 rfl (fun y => [.ref 1, .ref t, .int (iI (cl)), .int (iI (pt)), .ref va, .int (iI (mk)), .int (iI ((to : Int))), .int (iI (y)), .int (iI (rs)), .int (iI ((i : Int))), .int (iI (op)), .int (iI (arg)), v12, v13]) (fun _ => rfl) (fun y8 hy8 => ?_)
                                  refine rr_iload pf_25_237 rfl ?_
                                  refine rr_aload_n pf_25_239 rfl ?_
                                  refine rr_getR pf_25_240 po_25 pg_5_9 rfl (ws_1 hW) (by decide) (wr_1_0 hF) ?_
                                  refine rr_iload pf_25_243 rfl ?_
                                  refine rr_iald pf_25_245 (ws_2 hW) (by omega) (by omega) (by simp only [rg, rl] at *; omega) ?_
                                  rw [show (y8).toNat = r.length by omega, hx]
                                  refine rr_i2l pf_25_246 (by simp only [rg, rl] at *; omega) ?_
                                  refine rr_aload_n pf_25_247 rfl ?_
                                  refine rr_getR pf_25_248 po_25 pg_5_9 rfl (ws_1 hW) (by decide) (wr_1_0 hF) ?_
                                  refine rr_iload pf_25_251 rfl ?_
                                  refine rr_iconst pf_25_253 ?_
                                  refine rr_iadd pf_25_254 ?_
                                  refine rr_iald pf_25_255 (ws_2 hW) (by omega) (by omega) (by simp only [rg, rl] at *; omega) ?_
                                  rw [show (y8 + 1).toNat = r.length + 1 by omega, hy]
                                  refine rr_i2l pf_25_256 (by simp only [rg, rl] at *; omega) ?_
                                  refine rr_cS3 pf_25_257 po_25 pc_5_27 (by decide) rfl (ct_Sums_join (by omega) hrop (by simp only [rg, rl] at *; omega) (by simp only [rg, rl] at *; omega)) ?_
                                  refine rr_lstore pf_25_260 (fun y => [.ref 1, .ref t, .int (iI (cl)), .int (iI (pt)), .ref va, .int (iI (mk)), .int (iI ((to : Int))), .int (iI (y8)), .int (iI (rs)), .int (iI ((i : Int))), .int (iI (op)), .int (iI (arg)), .long (lI (y)), px_jk]) (Nat.le_of_ble_eq_true rfl) (fun _ => rfl) (fun y9 hy9 => ?_)
                                  refine rr_lload pf_25_262 rfl ?_
                                  refine rr_ldc2_w pf_25_264 po_25 pl_5_31 ?_
                                  refine rr_lcmp pf_25_267 (by simp only [rg, rl] at *; omega) (by simp only [rg, rl] at *; omega) ?_
                                  refine rr_ifc_gt 280 pf_25_268 (by decide) (fun c10 => ?_) (fun c10 => ?_)
                                  · exfalso; omega
                                  · refine rr_lload pf_25_271 rfl ?_
                                    refine rr_ldc2_w pf_25_273 po_25 pl_5_33 ?_
                                    refine rr_lcmp pf_25_276 (by simp only [rg, rl] at *; omega) (by simp only [rg, rl] at *; omega) ?_
                                    refine rr_ifc_ge 283 pf_25_277 (by decide) (fun c11 => ?_) (fun c11 => ?_)
                                    · refine rr_aload_n pf_25_283 rfl ?_
                                      refine rr_getR pf_25_284 po_25 pg_5_9 rfl (ws_1 hW) (by decide) (wr_1_0 hF) ?_
                                      refine rr_iload pf_25_287 rfl ?_
                                      refine rr_lload pf_25_289 rfl ?_
                                      refine rr_l2i pf_25_291 (by simp only [rg, rl] at *; omega) ?_
                                      refine rr_iast pf_25_292 (ws_2 hW) (by omega) (by omega) (by simp only [rg, rl] at *; omega) (by simp only [rg, rl] at *; omega) (fun M12 eM12 => ?_)
                                      have hE13 : px_eo [2] M0 M12 := eo_tr hE (by rw [eM12]; exact eo_up (by simp))
                                      have hF14 : px_Fx M12 := by rw [eM12]; exact fx_up hW hF (ws_2 hW) (Or.inl (by rw [px_ty10]; decide))
                                      have hG15 : px_RG sh M12 := by rw [eM12]; exact rg_up hG (ws_2 hW) (by rw [px_ty10]; decide) (by simp only [rg, rl] at *; omega)
                                      refine rr_iinc pf_25_293 rfl (fun y => [.ref 1, .ref t, .int (iI (cl)), .int (iI (pt)), .ref va, .int (iI (mk)), .int (iI ((to : Int))), .int (iI (y8)), .int (iI (rs)), .int (iI (y)), .int (iI (op)), .int (iI (arg)), .long (lI (y9)), px_jk]) (fun _ => rfl) (fun y16 hy16 => ?_)
                                      refine rr_goto 34 pf_25_296 (by decide) ?_
                                      obtain rfl : y16 = ((i + 1 : Nat) : Int) := by omega
                                      obtain rfl : y8 = ((sp_join (M0 (t + 1) i) x y :: r).length : Int) - 1 := by simp; omega
                                      obtain rfl : y9 = sp_join (M0 (t + 1) i) x y := by rw [hy9, hop]
                                      have E : evC (M0 (t + 1)) (M0 (t + 2)) (M0 va) nv (f + 1) i rs (y :: x :: r) = evC (M0 (t + 1)) (M0 (t + 2)) (M0 va) nv f (i + 1) rs (sp_join (M0 (t + 1) i) x y :: r) := by
                                        simp only [evC]
                                        rw [if_neg hrs2, if_neg (by rw [← hop]; omega), if_neg (by rw [← hop]; omega), if_neg (by rw [← hop]; omega)]
                                      rw [E]
                                      exact ih (i + 1) rs (sp_join (M0 (t + 1) i) x y :: r) M12 _ _ _ _ (by omega) hrs hF14 hG15 hE13 (by rw [eM12, show (((sp_join (M0 (t + 1) i) x y :: r).length : Int) - 1).toNat = r.length by simp]; exact stk_push (stk_pop (stk_pop hst))) (by simp at hsl ⊢; omega) (stkB_c (by rw [← hop]; omega) (stkB_t (stkB_t hsb)))
                                    · exfalso; omega
                                · exfalso; omega
                            · exfalso; omega
                          · exfalso; omega
                        · exfalso; omega
                      · exfalso; omega
        · exfalso; omega
def wC (ops args vals : Nat → Int) (nv fr to : Nat) : Int := resC (evC ops args vals nv (to - fr) fr 0 [])
theorem ct_Sums_worth {xs : Nat → Int} {L d : Nat} {sh : List (Nat × Nat)} {M : Nat → Nat → Int} (hd : 2 ≤ d) (hW : px_W0 <+: sh) (hF : px_Fx M) (hG : px_RG sh M) {t N C va nv cl pt fr to : Nat} (hT : px_tx sh M t N C) (hva : sh[va]? = some (10, nv)) (hv2 : va ≠ 2) (hnv : nv ≤ 100) (hcl : cl < C) (hpt : pt < 7) (hmf : M (t + 3) (cl * 8 + pt) = (fr : Int)) (hmt : M (t + 3) (cl * 8 + pt + 1) = (to : Int)) (hfr : fr ≤ to) (hto : to ≤ N) (hargs0 : ∀ i, i < N → 0 ≤ M (t + 2) i ∧ M (t + 2) i ≤ 1000000000) (hvb : ∀ j, j < nv → -1000000000 ≤ M va j ∧ M va j ≤ 1000000000) (hops0 : ∀ i, i < N → 0 ≤ M (t + 1) i) : ∃ M', px_qk sh [2] M M' ∧ px_Cl xs L d 25 [.ref 1, .ref t, .int (iI (((cl : Nat) : Int))), .int (iI (((pt : Nat) : Int))), .ref va] (sh, M) (some (.int (iI (wC (M (t + 1)) (M (t + 2)) (M va) nv fr to)))) (sh, M') := by
  have hC := hT.2.2.2.2.2.2.2.2.1
  have hN := hT.2.2.2.2.2.2.2.1
  obtain ⟨d, rfl⟩ : ∃ e, d = e + 1 := ⟨d - 1, by omega⟩
  refine px_Cl_m (Nat.le_of_ble_eq_true rfl) ?_
  show px_R xs L d 25 (0, [.ref 1, .ref t, .int (iI (((cl : Nat) : Int))), .int (iI (((pt : Nat) : Int))), .ref va, px_jk, px_jk, px_jk, px_jk, px_jk, px_jk, px_jk, px_jk, px_jk], [], (sh, M)) _
  refine rr_iload_n pf_25_0 rfl ?_
  refine rr_bipush pf_25_1 (by decide) ?_
  refine rr_imul pf_25_3 ?_
  refine rr_iload_n pf_25_4 rfl ?_
  refine rr_iadd pf_25_5 ?_
  refine rr_istore pf_25_6 (fun y => [.ref 1, .ref t, .int (iI (((cl : Nat) : Int))), .int (iI (((pt : Nat) : Int))), .ref va, .int (iI (y)), px_jk, px_jk, px_jk, px_jk, px_jk, px_jk, px_jk, px_jk]) (Nat.le_of_ble_eq_true rfl) (fun _ => rfl) (fun y1 hy1 => ?_)
  refine rr_aload_n pf_25_8 rfl ?_
  refine rr_getR pf_25_9 po_25 pg_5_17 rfl (tx_s0 hT) (by decide) (tx_f2 hT) ?_
  refine rr_iload pf_25_12 rfl ?_
  refine rr_iconst pf_25_14 ?_
  refine rr_iadd pf_25_15 ?_
  refine rr_iald pf_25_16 (tx_s3 hT) (by omega) (by omega) (by simp only [rg, rl] at *; omega) ?_
  refine rr_istore pf_25_17 (fun y => [.ref 1, .ref t, .int (iI (((cl : Nat) : Int))), .int (iI (((pt : Nat) : Int))), .ref va, .int (iI (y1)), .int (iI (y)), px_jk, px_jk, px_jk, px_jk, px_jk, px_jk, px_jk]) (Nat.le_of_ble_eq_true rfl) (fun _ => rfl) (fun y2 hy2 => ?_)
  refine rr_iconst pf_25_19 ?_
  refine rr_istore pf_25_20 (fun y => [.ref 1, .ref t, .int (iI (((cl : Nat) : Int))), .int (iI (((pt : Nat) : Int))), .ref va, .int (iI (y1)), .int (iI (y2)), .int (iI (y)), px_jk, px_jk, px_jk, px_jk, px_jk, px_jk]) (Nat.le_of_ble_eq_true rfl) (fun _ => rfl) (fun y3 hy3 => ?_)
  refine rr_iconst pf_25_22 ?_
  refine rr_istore pf_25_23 (fun y => [.ref 1, .ref t, .int (iI (((cl : Nat) : Int))), .int (iI (((pt : Nat) : Int))), .ref va, .int (iI (y1)), .int (iI (y2)), .int (iI (y3)), .int (iI (y)), px_jk, px_jk, px_jk, px_jk, px_jk]) (Nat.le_of_ble_eq_true rfl) (fun _ => rfl) (fun y4 hy4 => ?_)
  refine rr_aload_n pf_25_25 rfl ?_
  refine rr_getR pf_25_26 po_25 pg_5_17 rfl (tx_s0 hT) (by decide) (tx_f2 hT) ?_
  refine rr_iload pf_25_29 rfl ?_
  refine rr_iald pf_25_31 (tx_s3 hT) (by omega) (by omega) (by simp only [rg, rl] at *; omega) ?_
  refine rr_istore pf_25_32 (fun y => [.ref 1, .ref t, .int (iI (((cl : Nat) : Int))), .int (iI (((pt : Nat) : Int))), .ref va, .int (iI (y1)), .int (iI (y2)), .int (iI (y3)), .int (iI (y4)), .int (iI (y)), px_jk, px_jk, px_jk, px_jk]) (Nat.le_of_ble_eq_true rfl) (fun _ => rfl) (fun y5 hy5 => ?_)
  have e6 : y2 = ((to : Nat) : Int) := by rw [hy2, ← hmt]; congr 1; omega
  have e9 : y5 = ((fr : Nat) : Int) := by rw [hy5, ← hmf]; congr 1; omega
  have e7 : y3 = ((([] : List Int).length : Int)) - 1 := by simp; omega
  have e8 : y4 = 0 := by omega
  rw [e6, e7, e8, e9]
  exact lp_Sums_worth (by omega) hW hT hva hv2 hnv hto hargs0 hvb hops0 (to - fr) fr 0 [] M _ _ _ _ (by omega) rg_0 hF hG eo_rf (fun j hj => absurd hj (by simp)) (by simp) (fun x hx => absurd hx List.not_mem_nil)

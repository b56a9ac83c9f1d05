/-! rules in which every read and write is named -/
theorem qk_nil {sh : List (Nat × Nat)} {M M2 : Nat → Nat → Int} (h : px_qk sh [] M M2) : M = M2 := funext (fun a => (h.2.2 a (by simp)).symm)
theorem qk_trm {sh : List (Nat × Nat)} {A B : List Nat} {M M2 M3 : Nat → Nat → Int} (h1 : px_qk sh A M M2) (h2 : px_qk sh B M2 M3) (hs : ∀ a ∈ B, a ∈ A) : px_qk sh A M M3 := ⟨h2.1, h2.2.1, eo_tr h1.2.2 (eo_mono h2.2.2 hs)⟩
theorem bI_c {c e : Prop} [Decidable c] [Decidable e] (h : c ↔ e) : bI c = bI e := by unfold bI; by_cases hc : c; rw [if_pos hc, if_pos (h.mp hc)]; rw [if_neg hc, if_neg (fun z => hc (h.mpr z))]
theorem vc_n {xs : Nat → Int} {L d k : Nat} {as : List Value} {h : px_H} {sh : List (Nat × Nat)} {r : Option Value} {P : (Nat → Nat → Int) → Prop} (hl : (px_slots as).length ≤ px_maxL k) (G : px_R xs L d k (0, px_ent as (px_maxL k), [], h) (fun r' h' => r' = r ∧ ∃ M', h' = (sh, M') ∧ P M')) : ∃ M', P M' ∧ px_Cl xs L (d + 1) k as h r (sh, M') := px_Cl_m hl G
theorem vc_i {xs : Nat → Int} {L d k : Nat} {as : List Value} {h : px_H} {sh : List (Nat × Nat)} {P : Int → (Nat → Nat → Int) → Prop} (hl : (px_slots as).length ≤ px_maxL k) (G : px_R xs L d k (0, px_ent as (px_maxL k), [], h) (fun r' h' => ∃ v M', r' = some (.int (iI v)) ∧ h' = (sh, M') ∧ P v M')) : ∃ v M', P v M' ∧ px_Cl xs L (d + 1) k as h (some (.int (iI v))) (sh, M') := by
  obtain ⟨r2, h2, ⟨v, M', rfl, rfl, hp⟩, hc⟩ := px_Cl_ex hl G
  exact ⟨v, M', hp, hc⟩
theorem vc_l {xs : Nat → Int} {L d k : Nat} {as : List Value} {h : px_H} {sh : List (Nat × Nat)} {P : Int → (Nat → Nat → Int) → Prop} (hl : (px_slots as).length ≤ px_maxL k) (G : px_R xs L d k (0, px_ent as (px_maxL k), [], h) (fun r' h' => ∃ v M', r' = some (.long (lI v)) ∧ h' = (sh, M') ∧ P v M')) : ∃ v M', P v M' ∧ px_Cl xs L (d + 1) k as h (some (.long (lI v))) (sh, M') := by
  obtain ⟨r2, h2, ⟨v, M', rfl, rfl, hp⟩, hc⟩ := px_Cl_ex hl G
  exact ⟨v, M', hp, hc⟩
section VC
variable {xs : Nat → Int} {L d k pc : Nat} {ls st : List Value} {sh : List (Nat × Nat)} {M M0 : Nat → Nat → Int} {A : List Nat} {Q : Option Value → px_H → Prop}
theorem vr_getI {a n j ci i o : Nat} (q : px_qk sh A M0 M) (hf : px_fetch k pc = some (.getfield i, 3)) (ho : px_own k = o) (hg : px_fr o i = some (ci, j)) (ht : px_ty ci j = 0) (hs : sh[a]? = some (ci, n)) (hj : j < n) (G : ∀ x, x = M a j → (-2147483648 ≤ x ∧ x < 2147483648) → px_R xs L d k (pc + 3, ls, .int (iI x) :: st, (sh, M)) Q) : px_R xs L d k (pc, ls, .ref a :: st, (sh, M)) Q := rr_getI hf ho hg ht hs hj (G _ rfl (rg_at q.2.1 hs (by rw [ht]; decide)))
theorem vr_getZ {a n j ci i o : Nat} (q : px_qk sh A M0 M) (hf : px_fetch k pc = some (.getfield i, 3)) (ho : px_own k = o) (hg : px_fr o i = some (ci, j)) (ht : px_ty ci j = 3) (hs : sh[a]? = some (ci, n)) (hj : j < n) (G : ∀ x, x = M a j → (-2147483648 ≤ x ∧ x < 2147483648) → px_R xs L d k (pc + 3, ls, .int (iI x) :: st, (sh, M)) Q) : px_R xs L d k (pc, ls, .ref a :: st, (sh, M)) Q := rr_getZ hf ho hg ht hs hj (G _ rfl (rg_at q.2.1 hs (by rw [ht]; decide)))
theorem vr_getL {a n j ci i o : Nat} (q : px_qk sh A M0 M) (hf : px_fetch k pc = some (.getfield i, 3)) (ho : px_own k = o) (hg : px_fr o i = some (ci, j)) (ht : px_ty ci j = 1) (hs : sh[a]? = some (ci, n)) (hj : j < n) (G : ∀ x, x = M a j → (-9223372036854775808 ≤ x ∧ x < 9223372036854775808) → px_R xs L d k (pc + 3, ls, .long (lI x) :: st, (sh, M)) Q) : px_R xs L d k (pc, ls, .ref a :: st, (sh, M)) Q := rr_getL hf ho hg ht hs hj (G _ rfl (rg_atL q.2.1 hs ht))
theorem vr_iald {a n : Nat} {i : Int} {j : Nat} (q : px_qk sh A M0 M) (hf : px_fetch k pc = some (.iaload, 1)) (hs : sh[a]? = some (10, n)) (hi : i = (j : Int)) (hj : j < n) (hn : n < 1000000) (G : ∀ x, x = M a j → (-2147483648 ≤ x ∧ x < 2147483648) → px_R xs L d k (pc + 1, ls, .int (iI x) :: st, (sh, M)) Q) : px_R xs L d k (pc, ls, .int (iI i) :: .ref a :: st, (sh, M)) Q := by
  subst hi
  refine rr_iald hf hs (by omega) (by omega) (by unfold rg; omega) ?_
  rw [Int.toNat_natCast]
  exact G _ rfl (rg_at q.2.1 hs (by rw [px_ty10]; decide))
theorem vr_bald {a n : Nat} {i : Int} {j : Nat} (q : px_qk sh A M0 M) (hf : px_fetch k pc = some (.baload, 1)) (hs : sh[a]? = some (11, n)) (hi : i = (j : Int)) (hj : j < n) (hn : n < 1000000) (G : ∀ x, x = M a j → (-2147483648 ≤ x ∧ x < 2147483648) → px_R xs L d k (pc + 1, ls, .int (iI x) :: st, (sh, M)) Q) : px_R xs L d k (pc, ls, .int (iI i) :: .ref a :: st, (sh, M)) Q := by
  subst hi
  refine rr_bald hf hs (by omega) (by omega) (by unfold rg; omega) ?_
  rw [Int.toNat_natCast]
  exact G _ rfl (rg_at q.2.1 hs (by rw [px_ty11]; decide))
theorem vr_lald {a n : Nat} {i : Int} {j : Nat} (q : px_qk sh A M0 M) (hf : px_fetch k pc = some (.laload, 1)) (hs : sh[a]? = some (12, n)) (hi : i = (j : Int)) (hj : j < n) (hn : n < 1000000) (G : ∀ x, x = M a j → (-9223372036854775808 ≤ x ∧ x < 9223372036854775808) → px_R xs L d k (pc + 1, ls, .long (lI x) :: st, (sh, M)) Q) : px_R xs L d k (pc, ls, .int (iI i) :: .ref a :: st, (sh, M)) Q := by
  subst hi
  refine rr_lald hf hs (by omega) (by omega) (by unfold rg; omega) ?_
  rw [Int.toNat_natCast]
  exact G _ rfl (rg_atL q.2.1 hs (by rw [px_ty12]))
theorem qk_up (hW : px_W0 <+: sh) (q : px_qk sh A M0 M) {a kd n j : Nat} {x : Int} (hs : sh[a]? = some (kd, n)) (h2 : px_ty kd j ≠ 2) (h1 : px_ty kd j ≠ 1) (hx : rg x) (hA : a ∈ A) : px_qk sh A M0 (px_up M a j x) := ⟨fx_up hW q.1 hs (Or.inl h2), rg_up q.2.1 hs h1 hx, eo_tr q.2.2 (eo_up hA)⟩
theorem qk_upL (hW : px_W0 <+: sh) (q : px_qk sh A M0 M) {a kd n j : Nat} {x : Int} (hs : sh[a]? = some (kd, n)) (h1 : px_ty kd j = 1) (hx : rl x) (hA : a ∈ A) : px_qk sh A M0 (px_up M a j x) := ⟨fx_up hW q.1 hs (Or.inl (by rw [h1]; decide)), rg_upL q.2.1 hs h1 hx, eo_tr q.2.2 (eo_up hA)⟩
theorem vr_putI {a n j ci i o : Nat} {x : Int} (hW : px_W0 <+: sh) (q : px_qk sh A M0 M) (hf : px_fetch k pc = some (.putfield i, 3)) (ho : px_own k = o) (hg : px_fr o i = some (ci, j)) (hn : ((px_C ci).2.1 j).2.2.2 = false ∨ (px_isInit k = true ∧ o = ci)) (ht : px_ty ci j = 0) (hs : sh[a]? = some (ci, n)) (hj : j < n) (hx : rg x) (hA : a ∈ A) (G : ∀ M2, M2 = px_up M a j x → px_qk sh A M0 M2 → px_R xs L d k (pc + 3, ls, st, (sh, M2)) Q) : px_R xs L d k (pc, ls, .int (iI x) :: .ref a :: st, (sh, M)) Q := rr_putI hf ho hg hn ht hs hj hx (fun M2 e => G M2 e (e ▸ qk_up hW q hs (by rw [ht]; decide) (by rw [ht]; decide) hx hA))
theorem vr_putZ {a n j ci i o : Nat} {x : Int} (hW : px_W0 <+: sh) (q : px_qk sh A M0 M) (hf : px_fetch k pc = some (.putfield i, 3)) (ho : px_own k = o) (hg : px_fr o i = some (ci, j)) (hn : ((px_C ci).2.1 j).2.2.2 = false ∨ (px_isInit k = true ∧ o = ci)) (ht : px_ty ci j = 3) (hs : sh[a]? = some (ci, n)) (hj : j < n) (hx : x = 0 ∨ x = 1) (hA : a ∈ A) (G : ∀ M2, M2 = px_up M a j x → px_qk sh A M0 M2 → px_R xs L d k (pc + 3, ls, st, (sh, M2)) Q) : px_R xs L d k (pc, ls, .int (iI x) :: .ref a :: st, (sh, M)) Q := rr_putZ hf ho hg hn ht hs hj hx (fun M2 e => G M2 e (e ▸ qk_up hW q hs (by rw [ht]; decide) (by rw [ht]; decide) (by unfold rg; omega) hA))
theorem vr_putL {a n j ci i o : Nat} {x : Int} (hW : px_W0 <+: sh) (q : px_qk sh A M0 M) (hf : px_fetch k pc = some (.putfield i, 3)) (ho : px_own k = o) (hg : px_fr o i = some (ci, j)) (hn : ((px_C ci).2.1 j).2.2.2 = false ∨ (px_isInit k = true ∧ o = ci)) (ht : px_ty ci j = 1) (hs : sh[a]? = some (ci, n)) (hj : j < n) (hx : rl x) (hA : a ∈ A) (G : ∀ M2, M2 = px_up M a j x → px_qk sh A M0 M2 → px_R xs L d k (pc + 3, ls, st, (sh, M2)) Q) : px_R xs L d k (pc, ls, .long (lI x) :: .ref a :: st, (sh, M)) Q := rr_putL hf ho hg hn ht hs hj hx (fun M2 e => G M2 e (e ▸ qk_upL hW q hs ht hx hA))
theorem vr_iast {a n : Nat} {i : Int} {j : Nat} {x : Int} (hW : px_W0 <+: sh) (q : px_qk sh A M0 M) (hf : px_fetch k pc = some (.iastore, 1)) (hs : sh[a]? = some (10, n)) (hi : i = (j : Int)) (hj : j < n) (hn : n < 1000000) (hx : rg x) (hA : a ∈ A) (G : ∀ M2, M2 = px_up M a j x → px_qk sh A M0 M2 → px_R xs L d k (pc + 1, ls, st, (sh, M2)) Q) : px_R xs L d k (pc, ls, .int (iI x) :: .int (iI i) :: .ref a :: st, (sh, M)) Q := by
  subst hi
  refine rr_iast hf hs (by omega) (by omega) (by unfold rg; omega) hx (fun M2 e => ?_)
  rw [Int.toNat_natCast] at e
  exact G M2 e (e ▸ qk_up hW q hs (by rw [px_ty10]; decide) (by rw [px_ty10]; decide) hx hA)
theorem vr_bast {a n : Nat} {i : Int} {j : Nat} {x : Int} (hW : px_W0 <+: sh) (q : px_qk sh A M0 M) (hf : px_fetch k pc = some (.bastore, 1)) (hs : sh[a]? = some (11, n)) (hi : i = (j : Int)) (hj : j < n) (hn : n < 1000000) (hx : x = 0 ∨ x = 1) (hA : a ∈ A) (G : ∀ M2, M2 = px_up M a j x → px_qk sh A M0 M2 → px_R xs L d k (pc + 1, ls, st, (sh, M2)) Q) : px_R xs L d k (pc, ls, .int (iI x) :: .int (iI i) :: .ref a :: st, (sh, M)) Q := by
  subst hi
  refine rr_bast hf hs (by omega) (by omega) (by unfold rg; omega) hx (fun M2 e => ?_)
  rw [Int.toNat_natCast] at e
  exact G M2 e (e ▸ qk_up hW q hs (by rw [px_ty11]; decide) (by rw [px_ty11]; decide) (by unfold rg; omega) hA)
theorem vr_last {a n : Nat} {i : Int} {j : Nat} {x : Int} (hW : px_W0 <+: sh) (q : px_qk sh A M0 M) (hf : px_fetch k pc = some (.lastore, 1)) (hs : sh[a]? = some (12, n)) (hi : i = (j : Int)) (hj : j < n) (hn : n < 1000000) (hx : rl x) (hA : a ∈ A) (G : ∀ M2, M2 = px_up M a j x → px_qk sh A M0 M2 → px_R xs L d k (pc + 1, ls, st, (sh, M2)) Q) : px_R xs L d k (pc, ls, .long (lI x) :: .int (iI i) :: .ref a :: st, (sh, M)) Q := by
  subst hi
  refine rr_last hf hs (by omega) (by omega) (by unfold rg; omega) hx (fun M2 e => ?_)
  rw [Int.toNat_natCast] at e
  exact G M2 e (e ▸ qk_upL hW q hs (by rw [px_ty12]) hx hA)
theorem vr_copy {r : List Value} {i o a0 a1 n0 n1 t n : Nat} {m dp sp : Int} {js jd jm : Nat} (hW : px_W0 <+: sh) (q : px_qk sh A M0 M) (hf : px_fetch k pc = some (.invokestatic i, 3)) (ho : px_own k = o) (hc : px_ct o i = some (1, t, n)) (hr : px_room r = true) (h0 : sh[a0]? = some (10, n0)) (h1 : sh[a1]? = some (10, n1)) (e1 : sp = (js : Int)) (e2 : dp = (jd : Int)) (e3 : m = (jm : Int)) (q4 : js + jm ≤ n0) (q5 : jd + jm ≤ n1) (b0 : n0 < 1000000) (b1 : n1 < 1000000) (hA : a1 ∈ A) (G : ∀ M2, M2 = px_copy M a0 js a1 jd jm → px_qk sh A M0 M2 → px_R xs L d k (pc + 3, ls, r, (sh, M2)) Q) : px_R xs L d k (pc, ls, .int (iI m) :: .int (iI dp) :: .ref a1 :: .int (iI sp) :: .ref a0 :: r, (sh, M)) Q := by
  subst e1 e2 e3
  refine rr_copy hf ho hc hr h0 h1 (by omega) (by omega) (by omega) (by omega) (by omega) ⟨by unfold rg; omega, by unfold rg; omega, by unfold rg; omega⟩ (fun M2 e => ?_)
  rw [Int.toNat_natCast, Int.toNat_natCast, Int.toNat_natCast] at e
  refine G M2 e (e ▸ ⟨?_, rg_copy q.2.1 h0 h1, eo_tr q.2.2 (eo_cl hA)⟩)
  unfold px_copy
  exact fx_cl hW q.1 h1 (by decide)
end VC

/-! the two objects, new made, hold the same -/
theorem fold_inv {Pr : (Nat → Nat → Int) → Prop} : ∀ (l : List (Nat × Nat × Nat × Int)) (M : Nat → Nat → Int), Pr M → (∀ M e, e ∈ l → Pr M → Pr (lkS M e)) → Pr (l.foldl lkS M) := by
  intro l
  induction l with
  | nil => intro M h _; exact h
  | cons e l ih => intro M h hs; exact ih (lkS M e) (hs M e List.mem_cons_self h) (fun M2 e2 he h2 => hs M2 e2 (List.mem_cons_of_mem _ he) h2)
theorem bM_inv {Pr : (Nat → Nat → Int) → Prop} (h0 : Pr (fun _ _ => 0)) (hs : ∀ M e, e ∈ LG → Pr M → Pr (lkS M e)) : Pr (bM 713) := fold_inv _ _ h0 (fun M e he h => hs M e (List.mem_of_mem_take he) h)
theorem lkS_c (e : Nat × Nat × Nat × Int) (M : Nat → Nat → Int) (a j : Nat) : lkS M e a j = M a j ∨ (a = e.2.1 ∧ (lkS M e a j = e.2.2.2 ∨ (2 ≤ e.1 ∧ (lkS M e a j = -1 ∨ lkS M e a j = 0)))) := by
  obtain ⟨t, b, i, y⟩ := e
  match t with
  | 0 =>
    show px_up M b i y a j = M a j ∨ (a = b ∧ (px_up M b i y a j = y ∨ _))
    unfold px_up
    by_cases h : a = b
    · rw [if_pos h]
      by_cases h2 : j = i
      · rw [if_pos h2]; exact Or.inr ⟨h, Or.inl rfl⟩
      · rw [if_neg h2]; exact Or.inl rfl
    · rw [if_neg h]; exact Or.inl rfl
  | 1 =>
    show px_cl M b (fun _ => y) a j = M a j ∨ (a = b ∧ (px_cl M b (fun _ => y) a j = y ∨ _))
    unfold px_cl
    by_cases h : a = b
    · rw [if_pos h]; exact Or.inr ⟨h, Or.inl rfl⟩
    · rw [if_neg h]; exact Or.inl rfl
  | t + 2 =>
    show px_cl M b (fun j => if px_ty i j = 2 then -1 else 0) a j = M a j ∨ (a = b ∧ (_ ∨ (2 ≤ t + 2 ∧ (px_cl M b (fun j => if px_ty i j = 2 then -1 else 0) a j = -1 ∨ px_cl M b (fun j => if px_ty i j = 2 then -1 else 0) a j = 0))))
    unfold px_cl
    by_cases h : a = b
    · rw [if_pos h]
      refine Or.inr ⟨h, Or.inr ⟨by omega, ?_⟩⟩
      dsimp only
      split
      · exact Or.inl rfl
      · exact Or.inr rfl
    · rw [if_neg h]; exact Or.inl rfl
theorem LG_r : ∀ e ∈ LG, (-9223372036854775808 ≤ e.2.2.2 ∧ e.2.2.2 < 9223372036854775808) ∧ ((-2147483648 ≤ e.2.2.2 ∧ e.2.2.2 < 2147483648) ∨ e.2.1 = 243 ∨ e.2.1 = 244 ∨ e.2.1 = 245 ∨ e.2.1 = 261) := by decide +kernel
theorem b_RG : px_RG px_W0 (bM 713) := by
  have h1 : ∀ a j, rl (bM 713 a j) := bM_inv (Pr := fun M => ∀ a j, rl (M a j)) (fun _ _ => by show rl 0; unfold rl; omega) (fun M e he h a j => by
    have hr := (LG_r e he).1
    have hm := h a j
    unfold rl at hm ⊢
    rcases lkS_c e M a j with z | ⟨-, z | ⟨-, z | z⟩⟩ <;> rw [z] <;> omega)
  have h2 : ∀ a, a ≠ 243 → a ≠ 244 → a ≠ 245 → a ≠ 261 → ∀ j, rg (bM 713 a j) := bM_inv (Pr := fun M => ∀ a, a ≠ 243 → a ≠ 244 → a ≠ 245 → a ≠ 261 → ∀ j, rg (M a j)) (fun _ _ _ _ _ _ => rg_0) (fun M e he h a a1 a2 a3 a4 j => by
    have hr := (LG_r e he).2
    have hm := h a a1 a2 a3 a4 j
    unfold rg at hm ⊢
    rcases lkS_c e M a j with z | ⟨y, z | ⟨-, z | z⟩⟩ <;> rw [z] <;> omega)
  intro a kd n j hs
  refine ⟨fun _ => h1 a j, fun ht => h2 a (fun q => ?_) (fun q => ?_) (fun q => ?_) (fun q => ?_) j⟩
  · rw [q, show px_W0[243]? = some (12, 12) by decide +kernel] at hs; cases hs; exact ht (px_ty12 j)
  · rw [q, show px_W0[244]? = some (12, 9) by decide +kernel] at hs; cases hs; exact ht (px_ty12 j)
  · rw [q, show px_W0[245]? = some (12, 4) by decide +kernel] at hs; cases hs; exact ht (px_ty12 j)
  · rw [q, show px_W0[261]? = some (12, 5) by decide +kernel] at hs; cases hs; exact ht (px_ty12 j)
def bFx (a : Nat) : Bool := match px_W0[a]? with
  | some (kd, n) => kd == 10 || kd == 11 || kd == 12 || kd == 13 || (List.range n).all (fun j => px_ty kd j != 2 || decide (bM 713 a j = px_M0 a j))
  | none => true
theorem bFx_0 : ∀ a, 0 ≤ a → a < 24 → bFx a = true := fun a h1 h2 => by
  have : (List.range 24).all (fun i => bFx (0 + i)) = true := by decide +kernel
  have h := List.all_eq_true.mp this (a - 0) (List.mem_range.mpr (by omega))
  rw [show 0 + (a - 0) = a by omega] at h
  exact h
theorem bFx_1 : ∀ a, 24 ≤ a → a < 48 → bFx a = true := fun a h1 h2 => by
  have : (List.range 24).all (fun i => bFx (24 + i)) = true := by decide +kernel
  have h := List.all_eq_true.mp this (a - 24) (List.mem_range.mpr (by omega))
  rw [show 24 + (a - 24) = a by omega] at h
  exact h
theorem bFx_2 : ∀ a, 48 ≤ a → a < 72 → bFx a = true := fun a h1 h2 => by
  have : (List.range 24).all (fun i => bFx (48 + i)) = true := by decide +kernel
  have h := List.all_eq_true.mp this (a - 48) (List.mem_range.mpr (by omega))
  rw [show 48 + (a - 48) = a by omega] at h
  exact h
theorem bFx_3 : ∀ a, 72 ≤ a → a < 96 → bFx a = true := fun a h1 h2 => by
  have : (List.range 24).all (fun i => bFx (72 + i)) = true := by decide +kernel
  have h := List.all_eq_true.mp this (a - 72) (List.mem_range.mpr (by omega))
  rw [show 72 + (a - 72) = a by omega] at h
  exact h
theorem bFx_4 : ∀ a, 96 ≤ a → a < 120 → bFx a = true := fun a h1 h2 => by
  have : (List.range 24).all (fun i => bFx (96 + i)) = true := by decide +kernel
  have h := List.all_eq_true.mp this (a - 96) (List.mem_range.mpr (by omega))
  rw [show 96 + (a - 96) = a by omega] at h
  exact h
theorem bFx_5 : ∀ a, 120 ≤ a → a < 144 → bFx a = true := fun a h1 h2 => by
  have : (List.range 24).all (fun i => bFx (120 + i)) = true := by decide +kernel
  have h := List.all_eq_true.mp this (a - 120) (List.mem_range.mpr (by omega))
  rw [show 120 + (a - 120) = a by omega] at h
  exact h
theorem bFx_6 : ∀ a, 144 ≤ a → a < 168 → bFx a = true := fun a h1 h2 => by
  have : (List.range 24).all (fun i => bFx (144 + i)) = true := by decide +kernel
  have h := List.all_eq_true.mp this (a - 144) (List.mem_range.mpr (by omega))
  rw [show 144 + (a - 144) = a by omega] at h
  exact h
theorem bFx_7 : ∀ a, 168 ≤ a → a < 192 → bFx a = true := fun a h1 h2 => by
  have : (List.range 24).all (fun i => bFx (168 + i)) = true := by decide +kernel
  have h := List.all_eq_true.mp this (a - 168) (List.mem_range.mpr (by omega))
  rw [show 168 + (a - 168) = a by omega] at h
  exact h
theorem bFx_8 : ∀ a, 192 ≤ a → a < 216 → bFx a = true := fun a h1 h2 => by
  have : (List.range 24).all (fun i => bFx (192 + i)) = true := by decide +kernel
  have h := List.all_eq_true.mp this (a - 192) (List.mem_range.mpr (by omega))
  rw [show 192 + (a - 192) = a by omega] at h
  exact h
theorem bFx_9 : ∀ a, 216 ≤ a → a < 240 → bFx a = true := fun a h1 h2 => by
  have : (List.range 24).all (fun i => bFx (216 + i)) = true := by decide +kernel
  have h := List.all_eq_true.mp this (a - 216) (List.mem_range.mpr (by omega))
  rw [show 216 + (a - 216) = a by omega] at h
  exact h
theorem bFx_10 : ∀ a, 240 ≤ a → a < 264 → bFx a = true := fun a h1 h2 => by
  have : (List.range 24).all (fun i => bFx (240 + i)) = true := by decide +kernel
  have h := List.all_eq_true.mp this (a - 240) (List.mem_range.mpr (by omega))
  rw [show 240 + (a - 240) = a by omega] at h
  exact h
theorem bFx_all : ∀ a, a < 264 → bFx a = true := by
  intro a ha
  by_cases h0 : a < 24
  · exact bFx_0 a (by omega) h0
  by_cases h1 : a < 48
  · exact bFx_1 a (by omega) h1
  by_cases h2 : a < 72
  · exact bFx_2 a (by omega) h2
  by_cases h3 : a < 96
  · exact bFx_3 a (by omega) h3
  by_cases h4 : a < 120
  · exact bFx_4 a (by omega) h4
  by_cases h5 : a < 144
  · exact bFx_5 a (by omega) h5
  by_cases h6 : a < 168
  · exact bFx_6 a (by omega) h6
  by_cases h7 : a < 192
  · exact bFx_7 a (by omega) h7
  by_cases h8 : a < 216
  · exact bFx_8 a (by omega) h8
  by_cases h9 : a < 240
  · exact bFx_9 a (by omega) h9
  exact bFx_10 a (by omega) (by omega)
theorem b_Fx : px_Fx (bM 713) := by
  intro a kd n j hs hk ht hj
  have ha : a < 264 := by rw [← px_W0_len]; exact (List.getElem?_eq_some_iff.mp hs).1
  have h := bFx_all a ha
  unfold bFx at h
  rw [hs] at h
  dsimp only at h
  by_cases z : kd = 10 ∨ kd = 11 ∨ kd = 12 ∨ kd = 13
  · exfalso
    rcases z with rfl | rfl | rfl | rfl
    · rw [px_ty10] at ht; omega
    · rw [px_ty11] at ht; omega
    · rw [px_ty12] at ht; omega
    · exact hk rfl
  · have e1 : (kd == 10) = false := by rw [beq_eq_false_iff_ne]; omega
    have e2 : (kd == 11) = false := by rw [beq_eq_false_iff_ne]; omega
    have e3 : (kd == 12) = false := by rw [beq_eq_false_iff_ne]; omega
    have e4 : (kd == 13) = false := by rw [beq_eq_false_iff_ne]; omega
    rw [e1, e2, e3, e4, Bool.false_or, Bool.false_or, Bool.false_or, Bool.false_or] at h
    have := List.all_eq_true.mp h j (List.mem_range.mpr hj)
    rw [Bool.or_eq_true] at this
    rcases this with q | q
    · rw [ht] at q; exact absurd q (by decide)
    · exact of_decide_eq_true q
theorem b_zero {a : Nat} (h : ∀ e ∈ LG, e.2.1 = a → e.1 < 2 ∧ e.2.2.2 = 0) (j : Nat) : bM 713 a j = 0 := bM_inv (Pr := fun M => ∀ j, M a j = 0) (fun _ => rfl) (fun M e he hM j => by
    rcases lkS_c e M a j with z | ⟨y, z | ⟨y2, z | z⟩⟩
    · rw [z]; exact hM j
    · rw [z]; exact (h e he y.symm).2
    · exact absurd (h e he y.symm).1 (by omega)
    · rw [z]) j
theorem b_z199 : ∀ j, bM 713 199 j = 0 := b_zero (by decide +kernel)
theorem b_z237 : ∀ j, bM 713 237 j = 0 := b_zero (by decide +kernel)
theorem b_z202 : ∀ j, bM 713 202 j = 0 := b_zero (by decide +kernel)
theorem b_z203 : ∀ j, bM 713 203 j = 0 := b_zero (by decide +kernel)
theorem b_z205 : ∀ j, bM 713 205 j = 0 := b_zero (by decide +kernel)
theorem b_z229 : ∀ j, bM 713 229 j = 0 := b_zero (by decide +kernel)
theorem b_row : ∀ i, i < 109 → rc (bM 713) 3 i = bM 713 230 i := by decide +kernel
theorem b_ok : sp_ok (rw9 (bM 713 230)) := by unfold sp_ok; decide +kernel
theorem b_tb : TB (bM 713) := by unfold TB; decide +kernel
theorem b_c0 : bM 713 0 11 = 0 ∧ (bM 713 0 12 = 0 ∧ bM 713 0 13 = 0) ∧ bM 713 200 1 = -1 ∧ bM 713 98 0 = -1 ∧ bM 713 0 14 = 0 := by decide +kernel
theorem b_r0 : bM 713 228 13 = 0 ∧ (bM 713 228 11 = 0 ∧ bM 713 228 1 = 0) ∧ bM 713 228 18 = -1 ∧ bM 713 228 57 = -1 ∧ bM 713 228 20 = 0 ∧ bM 713 228 61 = -1 ∧ bM 713 228 8 = 0 := by decide +kernel
theorem b_im : ∀ k, k < 2 → bM 713 26 k = 0 ∧ bM 713 232 k = 0 := by decide +kernel
theorem b_tr : ((0 ≤ bM 713 27 2 ∧ bM 713 27 2 ≤ 16) ∧ (0 ≤ bM 713 27 3 ∧ bM 713 27 3 ≤ 16)) ∧ bM 713 27 3 = 0 := by decide +kernel
theorem b_law : ∀ k, k < 6 → bM 713 11 k = -1 := by decide +kernel
theorem b_sl : sSl px_W0 ≤ 31000 := by decide +kernel
theorem JJ_0 : JJ px_W0 (bM 713) 0 := by
  refine ⟨by omega, ⟨List.prefix_rfl, b_Fx, b_RG, by rw [px_W0_len]; omega, b_sl⟩, (rw9 (bM 713 230), []), [], 0, 0, -1, -1, 0, bM 713 199, bM 713 229, -1, bM 713 263, fun _ => none, ?_, ?_, ?_⟩
  · obtain ⟨h1, h2, h3, h4, h5⟩ := b_c0
    refine ⟨?_, ⟨fun k hk => Or.inl (b_law k hk), fun k l hl => by cases hl⟩, ⟨b_tr.1, b_tr.2, Nat.zero_le _, fun k hk => absurd hk (Nat.not_lt_zero k)⟩, h1, h2, h3, h4, rfl, fun j _ => by rw [b_z205, b_z229], ⟨fun i _ => by rw [b_z203]; omega, fun i _ => by rw [b_z202]; omega⟩, ⟨Or.inl ⟨h5, rfl⟩, fun z => absurd rfl z⟩, fun k hk => Or.inl ⟨(b_im k hk).1, rfl⟩⟩
    funext i
    show rc (bM 713) 3 i = if i < 109 then bM 713 230 i else 0
    by_cases z : i < 109
    · rw [if_pos z]; exact b_row i z
    · rw [if_neg z]; unfold rc
      rw [if_neg (by omega), if_neg (by omega), if_neg (by omega), if_neg (by omega), if_neg (by omega), if_neg (by omega), if_neg (by omega), if_neg (by omega), if_neg (by omega), if_neg (by omega), if_neg (by omega), if_neg (by omega), if_neg (by omega), if_neg (by omega), if_neg (by omega)]
  · obtain ⟨h1, h2, h3, h4, h5, h6, h7⟩ := b_r0
    exact ⟨rfl, fun k l hl => (by cases hl), tl_nil h7, h1, h2, h3, h4, funext (fun j => by rw [b_z237, b_z199]), rfl, h5, ⟨h6, rfl⟩, fun k hk => Or.inl ⟨(b_im k hk).2, rfl⟩, b_tb⟩
  · refine ⟨⟨b_ok, by decide +kernel, by decide +kernel, fun l hl => by cases hl⟩, trlOK_nil, by omega, fun j => by rw [b_z199]; omega, fun j _ => by rw [b_z229]; omega, by omega, fun k _ y hy => by cases hy⟩
theorem b_264 : bS 264 = px_W0 := by unfold bS; exact List.take_of_length_le (by rw [px_W0_len]; omega)
/-- the whole run -/
theorem b_all {xs : Nat → Int} {L : Nat} (hxs : ∀ j, rg (xs j)) (hL : L ≤ 3072) : px_R xs L 60 0 (0, [.retAddr 0, px_jk, px_jk, px_jk], [], ([], fun _ _ => 0)) (fun r h2 => r = some (.int 1) ∧ h2.1.length ≤ 600000 ∧ px_sl h2 ≤ 7302250) := by
  refine b_start (by omega) ?_
  rw [b_264]
  exact law_loop hxs (by omega) hL 600 0 px_W0 (bM 713) rfl JJ_0

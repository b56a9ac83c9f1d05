/-! instructions that make cells -/
section PXC
variable {p : Program} {l : Launch} {e : Env} {R : Room} {s : State} {m : MethodId} {args : Array Value} {below : List Frame} {meth : Method} {c : Code} {Q : State → Prop}
variable {B b L : Nat} {xs : Nat → Int} {adK adV : Nat → Nat} {fm : Value} {D : va_G} {cA : Nat → ClassId} {sl0 : Nat}
variable {cf : Nat → List Value → px_H → Option (Option Value × px_H)} {k len pc : Nat} {ls st : List Value} {h : px_H} {S2 : px_S}
theorem px_sz {H : Heap} {locs : List Loc} {cells slots : Nat} {g : JFrame} (kk : H.size ≤ s.heap.size + cells → W p l e R s m args below meth c H locs cells slots Q g) : W p l e R s m args below meth c H locs cells slots Q g := fun T hT X => kk (by rw [← hT]; exact X.heapSize) T hT X
theorem px_newq {H1 : Heap} {q : Nat} {E : va_E} (hD : va_D (fun q => B ≤ q) (px_ws B cA h ++ [(q, E)])) (hP : va_P D vwCl (px_ws B cA h ++ [(q, E)]) H1) (hz : H1.size ≤ B + h.1.length + 1) : q = B + h.1.length := by
  have hn : (px_ws B cA h ++ [(q, E)])[h.1.length]? = some (q, E) := by
    rw [List.getElem?_append_right (by rw [px_ws_len]; exact Nat.le_refl _), px_ws_len, Nat.sub_self]; rfl
  have h1 : q < H1.size := (hP _ _ hn).lt
  have h2 : B ≤ q := hD.2 _ _ hn
  by_cases hq : q < B + h.1.length
  · exfalso
    have hl : q - B < h.1.length := by omega
    have ha : (px_ws B cA h ++ [(q, E)])[q - B]? = some (B + (q - B), px_E B cA (px_cat h (q - B)).1 (px_cat h (q - B)).2 (h.2 (q - B))) := by
      rw [List.getElem?_append_left (by rw [px_ws_len]; exact hl)]
      exact px_ws_at (by unfold px_cat; rw [List.getD_eq_getElem?_getD, List.getElem?_eq_getElem hl]; rfl)
    have := hD.1 _ _ _ _ ha hn (show B + (q - B) = q by omega)
    omega
  · omega
theorem px_sl_push {kd n : Nat} {M : Nat → Nat → Int} : px_sl (h.1 ++ [(kd, n)], M) = px_sl h + n := by
  unfold px_sl
  simp
/-- behind the making of a cell -/
theorem px_Rep_push {H1 : Heap} {kd n : Nat} {f : Nat → Int} {E : va_E} (hw : px_wf h) (hk : kd < 10 → n = (px_C kd).2.2) (hk2 : kd ≤ 15) (hE : px_E B cA kd n f = E) (h1 : va_P D vwCl (px_ws B cA h ++ [(B + h.1.length, E)]) H1) (h2 : va_D (fun q => B ≤ q) (px_ws B cA h ++ [(B + h.1.length, E)])) : px_Rep B cA D (h.1 ++ [(kd, n)], px_cl h.2 h.1.length f) H1 := by
  subst hE
  rw [px_ws_push] at h1 h2
  exact ⟨h1, h2, px_wf_push hw hk hk2⟩
theorem px_va_A (F : px_Fr k B b L xs adK adV fm D cA p s m args meth c) : ∀ q : Nat, s.heap.size ≤ q → (fun q => B ≤ q) q := fun q hq => Nat.le_trans F.2.2.2.2.2.2.2.2.1 hq
theorem px_s_newarray (F : px_Fr k B b L xs adK adV fm D cA p s m args meth c) {v : ArrayType} (hd : decode (px_code k) pc = .ok (.newarray v, len)) (he : px_exec xs L cf k (.newarray v) len pc ls st h = some (.inl S2)) (hbud : B + S2.2.2.2.1.length ≤ s.heap.size + R.cells ∧ px_sl S2.2.2.2 ≤ sl0 + R.slots) (G : px_G p l e R s m args below meth c Q B b adK adV fm D cA sl0 (px_maxL k) S2) : px_G p l e R s m args below meth c Q B b adK adV fm D cA sl0 (px_maxL k) (pc, ls, st, h) := by
  simp only [px_exec] at he
  have main : ∀ (kd t0 : Nat) (ty : FieldType) (a0 : Nat → vp_A), newarray.typeOf v = ty → kd ≤ 15 → ¬ kd < 10 → (px_tys cA)[t0]? = some (cA t0, ty) → (∀ N cA2, vp_cell cA2 (a0 N) = arrV cA2 N (fun _ => defaultValue ty)) → (∀ N, px_E B cA kd N (fun _ => 0) = .inl (cA t0, a0 N)) → (∀ u cX, va_RA u cX ty = (u.vm.findClass ("[" ++ ty.toString) = some cX)) → componentBytes ty ≤ 8 → (Cond.arrayClass ty) ∈ px_gw → px_newa kd pc 2 0 ls st h = some (.inl S2) → decode (px_code k) pc = .ok (.newarray v, 2) → px_G p l e R s m args below meth c Q B b adK adV fm D cA sl0 (px_maxL k) (pc, ls, st, h) := by
    clear he hd
    intro kd t0 ty a0 hty hk1 hk2 ht0 ha0 hE hRA hcb hgw he hd
    unfold px_newa at he
    split at he
    · rename_i n r
      split at he
      · rename_i hn
        obtain rfl := px_inl he
        intro H locs cells slots ml hR hS hl hc hs
        have hb1 : B + (h.1.length + 1) ≤ s.heap.size + R.cells := by have := hbud.1; simpa using this
        have hb2 : px_sl h + n.toInt.toNat ≤ sl0 + R.slots := by have := hbud.2; rwa [px_sl_push] at this
        have hc : s.heap.size + cells = B + h.1.length := hc
        have hs : px_sl h = sl0 + slots := hs
        refine va_newa F.1 F.2.1 (by rw [hty]; exact F.2.2.2.2.1 _ hgw) hty F.2.2.2.2.2.2.2.2.2.1 hR.1 hR.2.1 hS (px_va_A F) (ha0 n.toInt.toNat) (fun q => by rw [Int32.lt_iff_toInt_lt] at q; simp at q; omega) rfl ?_ (by omega) (by omega) hd (fun q cA2 H1 hK1 hP1 hD1 hS1 => px_sz (fun hz => ?_))
        · calc n.toInt.toNat * componentBytes ty ≤ 1000000 * 8 := Nat.mul_le_mul (by omega) hcb
            _ ≤ 536870912 := by decide
        · obtain rfl : q = B + h.1.length := px_newq hD1 hP1 (by omega)
          have hq : cA2 = cA t0 := by
            have r1 := (hK1.2 6 (cA2, ty) rfl).2
            have r2 := (F.2.2.2.2.2.2.2.2.2.1.2 t0 _ ht0).2
            rw [hRA] at r1 r2
            exact Option.some.inj (r1.symm.trans r2)
          subst hq
          exact G H1 locs (cells + 1) (slots + n.toInt.toNat) ml (px_Rep_push hR.2.2 (fun q => absurd q hk2) hk1 (hE _) hP1 hD1) hS1 hl (by show s.heap.size + (cells + 1) = B + (h.1 ++ [(kd, n.toInt.toNat)]).length; simp; omega) (by show px_sl (h.1 ++ [(kd, n.toInt.toNat)], _) = _; rw [px_sl_push]; omega)
      · cases he
    · cases he
  split at he
  · rename_i hlen
    subst hlen
    split at he
    · exact main 10 0 .int (fun N => (N, .inl (fun _ => iI 0))) rfl (by decide) (by decide) rfl (fun N c2 => rfl) (fun N => rfl) (fun u cX => rfl) (by decide) (px_gw_at (i := 37) (by decide +kernel) rfl) he hd
    · exact main 11 1 .boolean (fun N => (N, .inl (fun _ => iI 0))) rfl (by decide) (by decide) rfl (fun N c2 => rfl) (fun N => rfl) (fun u cX => rfl) (by decide) (px_gw_at (i := 178) (by decide +kernel) rfl) he hd
    · exact main 12 2 .long (fun N => (N, .inr (.inl (fun _ => lI 0)))) rfl (by decide) (by decide) rfl (fun N c2 => rfl) (fun N => rfl) (fun u cX => rfl) (by decide) (px_gw_at (i := 287) (by decide +kernel) rfl) he hd
    · cases he
  · cases he
theorem px_s_anewarray (F : px_Fr k B b L xs adK adV fm D cA p s m args meth c) {v : Nat} (hd : decode (px_code k) pc = .ok (.anewarray v, len)) (he : px_exec xs L cf k (.anewarray v) len pc ls st h = some (.inl S2)) (hbud : B + S2.2.2.2.1.length ≤ s.heap.size + R.cells ∧ px_sl S2.2.2.2 ≤ sl0 + R.slots) (G : px_G p l e R s m args below meth c Q B b adK adV fm D cA sl0 (px_maxL k) S2) : px_G p l e R s m args below meth c Q B b adK adV fm D cA sl0 (px_maxL k) (pc, ls, st, h) := by
  simp only [px_exec] at he
  have main : ∀ (kd ci : Nat) (C : String), 13 ≤ kd → kd ≤ 15 → (px_tys cA)[kd - 10]? = some (cA (kd - 10), .object C) → px_cn ci = C → va_AO C s → px_clc (px_own k) v = some ci → px_newa kd pc 3 (-1) ls st h = some (.inl S2) → decode (px_code k) pc = .ok (.anewarray v, 3) → px_G p l e R s m args below meth c Q B b adK adV fm D cA sl0 (px_maxL k) (pc, ls, st, h) := by
    clear he hd
    intro kd ci C hk1 hk2 ht0 hC hao hcl he hd
    unfold px_newa at he
    split at he
    · rename_i n r
      split at he
      · rename_i hn
        obtain rfl := px_inl he
        intro H locs cells slots ml hR hS hl hc hs
        have hb1 : B + (h.1.length + 1) ≤ s.heap.size + R.cells := by have := hbud.1; simpa using this
        have hb2 : px_sl h + n.toInt.toNat ≤ sl0 + R.slots := by have := hbud.2; rwa [px_sl_push] at this
        have hc : s.heap.size + cells = B + h.1.length := hc
        have hs : px_sl h = sl0 + slots := hs
        have hlk := F.2.2.2.2.1 _ (px_clc_ok hcl)
        rw [hC] at hlk
        refine va_newq F.1 F.2.1 F.2.2.2.1 hlk hao F.2.2.2.2.2.2.2.2.2.1 hR.1 hR.2.1 hS (px_va_A F) (fun q => by rw [Int32.lt_iff_toInt_lt] at q; simp at q; omega) (N' := n.toInt.toNat) rfl (by omega) (by omega) (by omega) hd (fun q cA2 H1 hK1 hP1 hD1 hS1 => px_sz (fun hz => ?_))
        obtain rfl : q = B + h.1.length := px_newq hD1 hP1 (by omega)
        have hq : cA2 = cA (kd - 10) := by
          obtain ⟨_, _, -, -, -, r1⟩ := (hK1.2 6 (cA2, .object C) rfl).2
          obtain ⟨_, _, -, -, -, r2⟩ := (F.2.2.2.2.2.2.2.2.2.1.2 (kd - 10) _ ht0).2
          exact Option.some.inj (r1.symm.trans r2)
        subst hq
        exact G H1 locs (cells + 1) (slots + n.toInt.toNat) ml (px_Rep_push hR.2.2 (fun q => by omega) hk2 (px_E_ref hk1) hP1 hD1) hS1 hl (by show s.heap.size + (cells + 1) = B + (h.1 ++ [(kd, n.toInt.toNat)]).length; simp; omega) (by show px_sl (h.1 ++ [(kd, n.toInt.toNat)], _) = _; rw [px_sl_push]; omega)
      · cases he
    · cases he
  have hao := F.2.2.2.2.2.2.2.2.2.2.2.2.2.2.2.2.2.2.2.2
  split at he
  · rename_i hlen
    subst hlen
    split at he
    · rename_i hcl
      exact main 13 6 "SermonPanes$Text" (by decide) (by decide) rfl (by decide +kernel) hao.1 hcl he hd
    · rename_i hcl
      exact main 14 1 "SermonPanes$Nave" (by decide) (by decide) rfl (by decide +kernel) hao.2.1 hcl he hd
    · rename_i hcl
      exact main 15 0 "SermonPanes$Church" (by decide) (by decide) rfl (by decide +kernel) hao.2.2.1 hcl he hd
    · cases he
  · cases he
theorem px_dflt {ci j : Nat} (h1 : ci < 10) (h2 : j < (px_C ci).2.2) : defaultValue (px_Ty ci j) = px_dV B (px_ty ci j) (if px_ty ci j = 2 then -1 else 0) := by
  have h := (px_Ty_at h1 h2).2
  cases ht : px_Ty ci j <;> rw [ht] at h <;> simp [px_fty] at h <;> rw [h] <;> rfl
theorem px_s_new (F : px_Fr k B b L xs adK adV fm D cA p s m args meth c) {v : Nat} (hd : decode (px_code k) pc = .ok (.new v, len)) (he : px_exec xs L cf k (.new v) len pc ls st h = some (.inl S2)) (hbud : B + S2.2.2.2.1.length ≤ s.heap.size + R.cells ∧ px_sl S2.2.2.2 ≤ sl0 + R.slots) (G : px_G p l e R s m args below meth c Q B b adK adV fm D cA sl0 (px_maxL k) S2) : px_G p l e R s m args below meth c Q B b adK adV fm D cA sl0 (px_maxL k) (pc, ls, st, h) := by
  simp only [px_exec] at he
  split at he
  · rename_i hlen
    subst hlen
    split at he
    · rename_i ci hcl
      split at he
      · rename_i hci
        obtain rfl := px_inl he
        obtain ⟨c1, c2, c3, c4, c5⟩ := px_cl_at hci
        intro H locs cells slots ml hR hS hl hc hs
        have hb1 : B + (h.1.length + 1) ≤ s.heap.size + R.cells := by have := hbud.1; simpa using this
        have hb2 : px_sl h + (px_C ci).2.2 ≤ sl0 + R.slots := by have := hbud.2; rwa [px_sl_push] at this
        have hc : s.heap.size + cells = B + h.1.length := hc
        have hs : px_sl h = sl0 + slots := hs
        have hlk := F.2.2.2.2.1 _ (px_clc_ok hcl)
        rw [← c2] at hlk
        refine va_new (ci := ci) (fs := (List.range (px_C ci).2.2).map (fun j => px_dV B (px_ty ci j) (if px_ty ci j = 2 then -1 else 0))) F.1 F.2.1 F.2.2.2.2.1 c1 (px_Ty ci) (fun j hj => (px_Ty_at hci hj).1) F.2.2.2.1 hlk (F.2.2.2.2.1 _ c3) (F.2.2.2.2.1 _ c4) F.2.2.2.2.2.2.2.2.2.1 hR.1 hR.2.1 hS (px_va_A F) (px_C_at hci) (fun j hj => ?_) (by omega) (by omega) hd (fun q H1 hP1 hD1 hS1 => px_sz (fun hz => ?_))
        · unfold vp_V
          rw [List.getD_eq_getElem?_getD, List.getElem?_map, List.getElem?_range hj]
          exact px_dflt hci hj
        · obtain rfl : q = B + h.1.length := px_newq hD1 hP1 (by omega)
          exact G H1 locs (cells + 1) (slots + (px_C ci).2.2) ml (px_Rep_push hR.2.2 (fun _ => rfl) (by omega) (px_E_obj hci) hP1 hD1) hS1 hl (by show s.heap.size + (cells + 1) = B + (h.1 ++ [(ci, (px_C ci).2.2)]).length; simp; omega) (by show px_sl (h.1 ++ [(ci, (px_C ci).2.2)], _) = _; rw [px_sl_push]; omega)
      · cases he
    · cases he
  · cases he
end PXC

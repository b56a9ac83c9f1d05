/-! one instruction of the pure machine is one of the machine's -/
def px_sl (h : px_H) : Nat := (h.1.map (fun q => q.2)).sum
/-- what holds in a frame of method k -/
def px_Fr (k B b L : Nat) (xs : Nat → Int) (adK adV : Nat → Nat) (fm : Value) (D : va_G) (cA : Nat → ClassId) (p : Program) (s : State) (m : MethodId) (args : Array Value) (meth : Method) (c : Code) : Prop :=
  p.tables.exec = Jvm.exec ∧ c.code = px_code k ∧ c.maxLocals = px_maxL k ∧ s.vm.findClass (px_cn (px_own k)) = some m.cls ∧ (∀ w ∈ px_gw, w.before args s = true) ∧ (px_isInit k = true → meth.name = "<init>") ∧ meth.sig.returnType = px_ret k ∧ meth.locks = false ∧ B ≤ s.heap.size ∧ px_St B b L xs adK adV fm D cA s s.heap
/-- from every machine state that stands for this pure one the end is reached -/
def px_G (p : Program) (l : Launch) (e : Env) (R : Room) (s : State) (m : MethodId) (args : Array Value) (below : List Frame) (meth : Method) (c : Code) (Q : State → Prop) (B b : Nat) (adK adV : Nat → Nat) (fm : Value) (D : va_G) (cA : Nat → ClassId) (sl0 n : Nat) (S : px_S) : Prop :=
  ∀ (H : Heap) (locs : List Loc) (cells slots : Nat) (ml : Array Slot), px_Rep B cA D S.2.2.2 H → va_S (fun q => B ≤ q) s.heap H locs → px_LV (px_phi B b adK adV fm) n S.2.1 ml → s.heap.size + cells = B + S.2.2.2.1.length → px_sl S.2.2.2 = sl0 + slots →
    W p l e R s m args below meth c H locs cells slots Q (F0 m S.1 ml (S.2.2.1.map (px_phi B b adK adV fm)))
theorem px_inl {pc : Nat} {ls st : List Value} {h : px_H} {S : px_S} (he : px_n pc ls st h = some (.inl S)) : S = (pc, ls, st, h) := by
  unfold px_n at he
  simp only [Option.some.injEq, Sum.inl.injEq] at he
  exact he.symm
theorem px_brl {c : Prop} [Decidable c] {pc len : Nat} {off : Int} {ls st : List Value} {h : px_H} {S : px_S} (he : px_br c pc off len ls st h = some (.inl S)) : (pc : Int) + off = (px_tg pc off : Int) ∧ ((c ∧ S = (px_tg pc off, ls, st, h)) ∨ (¬ c ∧ S = (pc + len, ls, st, h))) := by
  unfold px_br at he
  split at he
  · rename_i h0
    refine ⟨by unfold px_tg; omega, ?_⟩
    split at he
    · rename_i hc
      exact Or.inl ⟨hc, px_inl he⟩
    · rename_i hc
      exact Or.inr ⟨hc, px_inl he⟩
  · cases he
section PXA
variable {p : Program} {l : Launch} {e : Env} {R : Room} {s : State} {m : MethodId} {args : Array Value} {below : List Frame} {meth : Method} {c : Code} {Q : State → Prop}
variable {B b L : Nat} {xs : Nat → Int} {adK adV : Nat → Nat} {fm : Value} {D : va_G} {cA : Nat → ClassId} {sl0 : Nat}
variable {cf : Nat → List Value → px_H → Option (Option Value × px_H)} {k len pc : Nat} {ls st : List Value} {h : px_H} {S2 : px_S}

theorem px_s_iconst (F : px_Fr k B b L xs adK adV fm D cA p s m args meth c) {v : Int} (hd : decode (px_code k) pc = .ok (.iconst v, len)) (he : px_exec xs L cf k (.iconst v) len pc ls st h = some (.inl S2)) (G : px_G p l e R s m args below meth c Q B b adK adV fm D cA sl0 (px_maxL k) S2) : px_G p l e R s m args below meth c Q B b adK adV fm D cA sl0 (px_maxL k) (pc, ls, st, h) := by
  simp only [px_exec] at he
  split at he
  · rename_i hlen
    subst hlen
    obtain rfl := px_inl he
    intro H locs cells slots ml hR hS hl hc hs
    exact lv_iconst F.1 F.2.1 hd rfl (G H locs cells slots ml hR hS hl hc hs)
  · cases he

theorem px_bipush_v {v : Int} (h1 : -128 ≤ v) (h2 : v < 128) : (Int8.ofInt v).toInt32 = iI v := by
  unfold iI
  rw [← Int32.toInt_inj, Int8.toInt_toInt32, Int8.toInt_ofInt, Int32.toInt_ofInt]
  rw [Int.bmod_eq_of_le (by simp only [Int8.size, Int16.size]; omega) (by simp only [Int8.size, Int16.size]; omega), Int.bmod_eq_of_le (by simp only [Int32.size]; omega) (by simp only [Int32.size]; omega)]

theorem px_s_bipush (F : px_Fr k B b L xs adK adV fm D cA p s m args meth c) {v : Int} (hd : decode (px_code k) pc = .ok (.bipush v, len)) (he : px_exec xs L cf k (.bipush v) len pc ls st h = some (.inl S2)) (G : px_G p l e R s m args below meth c Q B b adK adV fm D cA sl0 (px_maxL k) S2) : px_G p l e R s m args below meth c Q B b adK adV fm D cA sl0 (px_maxL k) (pc, ls, st, h) := by
  simp only [px_exec] at he
  split at he
  · rename_i hlen
    obtain ⟨rfl, h1, h2⟩ := hlen
    obtain rfl := px_inl he
    intro H locs cells slots ml hR hS hl hc hs
    exact lv_bipush F.1 F.2.1 hd (px_bipush_v h1 h2) (G H locs cells slots ml hR hS hl hc hs)
  · cases he

theorem px_sipush_v {v : Int} (h1 : -32768 ≤ v) (h2 : v < 32768) : (Int16.ofInt v).toInt32 = iI v := by
  unfold iI
  rw [← Int32.toInt_inj, Int16.toInt_toInt32, Int16.toInt_ofInt, Int32.toInt_ofInt]
  rw [Int.bmod_eq_of_le (by simp only [Int8.size, Int16.size]; omega) (by simp only [Int8.size, Int16.size]; omega), Int.bmod_eq_of_le (by simp only [Int32.size]; omega) (by simp only [Int32.size]; omega)]

theorem px_s_sipush (F : px_Fr k B b L xs adK adV fm D cA p s m args meth c) {v : Int} (hd : decode (px_code k) pc = .ok (.sipush v, len)) (he : px_exec xs L cf k (.sipush v) len pc ls st h = some (.inl S2)) (G : px_G p l e R s m args below meth c Q B b adK adV fm D cA sl0 (px_maxL k) S2) : px_G p l e R s m args below meth c Q B b adK adV fm D cA sl0 (px_maxL k) (pc, ls, st, h) := by
  simp only [px_exec] at he
  split at he
  · rename_i hlen
    obtain ⟨rfl, h1, h2⟩ := hlen
    obtain rfl := px_inl he
    intro H locs cells slots ml hR hS hl hc hs
    exact lv_sipush F.1 F.2.1 hd (px_sipush_v h1 h2) (G H locs cells slots ml hR hS hl hc hs)
  · cases he

theorem px_s_lconst (F : px_Fr k B b L xs adK adV fm D cA p s m args meth c) {v : Fin 2} (hd : decode (px_code k) pc = .ok (.lconst v, len)) (he : px_exec xs L cf k (.lconst v) len pc ls st h = some (.inl S2)) (G : px_G p l e R s m args below meth c Q B b adK adV fm D cA sl0 (px_maxL k) S2) : px_G p l e R s m args below meth c Q B b adK adV fm D cA sl0 (px_maxL k) (pc, ls, st, h) := by
  simp only [px_exec] at he
  split at he
  · rename_i hlen
    subst hlen
    obtain rfl := px_inl he
    intro H locs cells slots ml hR hS hl hc hs
    exact lv_lconst F.1 F.2.1 hd (by unfold lI; rw [Int64.ofInt_eq_ofNat]) (G H locs cells slots ml hR hS hl hc hs)
  · cases he

theorem px_sc_at {o i t : Nat} (h : px_sc o i = some t) : ∃ q, px_stb[t]? = some q ∧ q.1 = o ∧ q.2.1 = i := by
  unfold px_sc at h
  rw [List.findIdx?_eq_some_iff_getElem] at h
  obtain ⟨hl, h1, -⟩ := h
  simp only [Bool.and_eq_true, beq_iff_eq] at h1
  exact ⟨px_stb[t], List.getElem?_eq_getElem hl, h1.1, h1.2⟩

theorem px_s_ldc (F : px_Fr k B b L xs adK adV fm D cA p s m args meth c) {v : Nat} (hd : decode (px_code k) pc = .ok (.ldc v, len)) (he : px_exec xs L cf k (.ldc v) len pc ls st h = some (.inl S2)) (G : px_G p l e R s m args below meth c Q B b adK adV fm D cA sl0 (px_maxL k) S2) : px_G p l e R s m args below meth c Q B b adK adV fm D cA sl0 (px_maxL k) (pc, ls, st, h) := by
  simp only [px_exec] at he
  split at he
  · rename_i hlen
    subst hlen
    split at he
    · rename_i cc2 hk
      obtain rfl := px_inl he
      intro H locs cells slots ml hR hS hl hc hs
      exact lv_ldc F.1 F.2.1 F.2.2.2.1 (F.2.2.2.2.1 _ (px_kc_ok hk)) hd (G H locs cells slots ml hR hS hl hc hs)
    · rename_i t hk ht
      obtain rfl := px_inl he
      obtain ⟨q, q1, q2, q3⟩ := px_sc_at ht
      have hz := F.2.2.2.2.2.2.2.2.2.2.2.1 t q q1
      rw [q2, q3] at hz
      have h14 : t < 14 := (List.getElem?_eq_some_iff.mp q1).1
      intro H locs cells slots ml hR hS hl hc hs
      have hra : px_phi B b adK adV fm (.retAddr (t + 1)) = .ref (adK t) := by
        show px_ra b adK adV fm (t + 1) = _
        unfold px_ra
        rw [if_neg (by omega), if_pos (by omega)]
        rfl
      have hg := G H locs cells slots ml hR hS hl hc hs
      rw [show (List.map (px_phi B b adK adV fm) (Value.retAddr (t + 1) :: st)) = .ref (adK t) :: st.map (px_phi B b adK adV fm) by rw [List.map_cons, hra]] at hg
      exact va_ldcS F.1 F.2.1 F.2.2.2.1 hz hd hg
    · cases he
  · cases he

theorem px_s_ldc_w (F : px_Fr k B b L xs adK adV fm D cA p s m args meth c) {v : Nat} (hd : decode (px_code k) pc = .ok (.ldc_w v, len)) (he : px_exec xs L cf k (.ldc_w v) len pc ls st h = some (.inl S2)) (G : px_G p l e R s m args below meth c Q B b adK adV fm D cA sl0 (px_maxL k) S2) : px_G p l e R s m args below meth c Q B b adK adV fm D cA sl0 (px_maxL k) (pc, ls, st, h) := by
  simp only [px_exec] at he
  split at he
  · rename_i hlen
    subst hlen
    split at he
    · rename_i cc2 hk
      obtain rfl := px_inl he
      intro H locs cells slots ml hR hS hl hc hs
      exact lv_ldcw F.1 F.2.1 F.2.2.2.1 (F.2.2.2.2.1 _ (px_kc_ok hk)) hd (G H locs cells slots ml hR hS hl hc hs)
    · cases he
  · cases he

theorem px_s_ldc2_w (F : px_Fr k B b L xs adK adV fm D cA p s m args meth c) {v : Nat} (hd : decode (px_code k) pc = .ok (.ldc2_w v, len)) (he : px_exec xs L cf k (.ldc2_w v) len pc ls st h = some (.inl S2)) (G : px_G p l e R s m args below meth c Q B b adK adV fm D cA sl0 (px_maxL k) S2) : px_G p l e R s m args below meth c Q B b adK adV fm D cA sl0 (px_maxL k) (pc, ls, st, h) := by
  simp only [px_exec] at he
  split at he
  · rename_i hlen
    subst hlen
    split at he
    · rename_i cc2 hk
      obtain rfl := px_inl he
      intro H locs cells slots ml hR hS hl hc hs
      exact lv_ldc2 F.1 F.2.1 F.2.2.2.1 (F.2.2.2.2.1 _ (px_k2c_ok hk)) hd (G H locs cells slots ml hR hS hl hc hs)
    · cases he
  · cases he

theorem px_s_aconst_null (F : px_Fr k B b L xs adK adV fm D cA p s m args meth c)  (hd : decode (px_code k) pc = .ok (.aconst_null, len)) (he : px_exec xs L cf k (.aconst_null) len pc ls st h = some (.inl S2)) (G : px_G p l e R s m args below meth c Q B b adK adV fm D cA sl0 (px_maxL k) S2) : px_G p l e R s m args below meth c Q B b adK adV fm D cA sl0 (px_maxL k) (pc, ls, st, h) := by
  simp only [px_exec] at he
  split at he
  · rename_i hlen
    subst hlen
    obtain rfl := px_inl he
    intro H locs cells slots ml hR hS hl hc hs
    exact lv_null F.1 F.2.1 hd (G H locs cells slots ml hR hS hl hc hs)
  · cases he

theorem px_s_iload (F : px_Fr k B b L xs adK adV fm D cA p s m args meth c) {v : Nat} (hd : decode (px_code k) pc = .ok (.iload v, len)) (he : px_exec xs L cf k (.iload v) len pc ls st h = some (.inl S2)) (G : px_G p l e R s m args below meth c Q B b adK adV fm D cA sl0 (px_maxL k) S2) : px_G p l e R s m args below meth c Q B b adK adV fm D cA sl0 (px_maxL k) (pc, ls, st, h) := by
  simp only [px_exec] at he
  split at he
  · rename_i hlen
    subst hlen
    unfold px_ldi at he
    split at he
    · rename_i x hx
      obtain rfl := px_inl he
      intro H locs cells slots ml hR hS hl hc hs
      exact lv_iload F.1 F.2.1 hd (px_LV_get hl hx rfl) (G H locs cells slots ml hR hS hl hc hs)
    · cases he
  · cases he

theorem px_s_iload_n (F : px_Fr k B b L xs adK adV fm D cA p s m args meth c) {v : Fin 4} (hd : decode (px_code k) pc = .ok (.iload_n v, len)) (he : px_exec xs L cf k (.iload_n v) len pc ls st h = some (.inl S2)) (G : px_G p l e R s m args below meth c Q B b adK adV fm D cA sl0 (px_maxL k) S2) : px_G p l e R s m args below meth c Q B b adK adV fm D cA sl0 (px_maxL k) (pc, ls, st, h) := by
  simp only [px_exec] at he
  split at he
  · rename_i hlen
    subst hlen
    unfold px_ldi at he
    split at he
    · rename_i x hx
      obtain rfl := px_inl he
      intro H locs cells slots ml hR hS hl hc hs
      exact lv_iload_n F.1 F.2.1 hd rfl (px_LV_get hl hx rfl) (G H locs cells slots ml hR hS hl hc hs)
    · cases he
  · cases he

theorem px_s_lload (F : px_Fr k B b L xs adK adV fm D cA p s m args meth c) {v : Nat} (hd : decode (px_code k) pc = .ok (.lload v, len)) (he : px_exec xs L cf k (.lload v) len pc ls st h = some (.inl S2)) (G : px_G p l e R s m args below meth c Q B b adK adV fm D cA sl0 (px_maxL k) S2) : px_G p l e R s m args below meth c Q B b adK adV fm D cA sl0 (px_maxL k) (pc, ls, st, h) := by
  simp only [px_exec] at he
  split at he
  · rename_i hlen
    subst hlen
    unfold px_ldl at he
    split at he
    · rename_i x hx
      obtain rfl := px_inl he
      intro H locs cells slots ml hR hS hl hc hs
      exact lv_lload F.1 F.2.1 hd (px_LV_get hl hx rfl) (G H locs cells slots ml hR hS hl hc hs)
    · cases he
  · cases he

theorem px_s_lload_n (F : px_Fr k B b L xs adK adV fm D cA p s m args meth c) {v : Fin 4} (hd : decode (px_code k) pc = .ok (.lload_n v, len)) (he : px_exec xs L cf k (.lload_n v) len pc ls st h = some (.inl S2)) (G : px_G p l e R s m args below meth c Q B b adK adV fm D cA sl0 (px_maxL k) S2) : px_G p l e R s m args below meth c Q B b adK adV fm D cA sl0 (px_maxL k) (pc, ls, st, h) := by
  simp only [px_exec] at he
  split at he
  · rename_i hlen
    subst hlen
    unfold px_ldl at he
    split at he
    · rename_i x hx
      obtain rfl := px_inl he
      intro H locs cells slots ml hR hS hl hc hs
      exact lv_lload_n F.1 F.2.1 hd rfl (px_LV_get hl hx rfl) (G H locs cells slots ml hR hS hl hc hs)
    · cases he
  · cases he

theorem px_s_aload (F : px_Fr k B b L xs adK adV fm D cA p s m args meth c) {v : Nat} (hd : decode (px_code k) pc = .ok (.aload v, len)) (he : px_exec xs L cf k (.aload v) len pc ls st h = some (.inl S2)) (G : px_G p l e R s m args below meth c Q B b adK adV fm D cA sl0 (px_maxL k) S2) : px_G p l e R s m args below meth c Q B b adK adV fm D cA sl0 (px_maxL k) (pc, ls, st, h) := by
  simp only [px_exec] at he
  split at he
  · rename_i hlen
    subst hlen
    unfold px_lda at he
    split at he
    · rename_i x hx
      obtain rfl := px_inl he
      intro H locs cells slots ml hR hS hl hc hs
      exact lv_aload F.1 F.2.1 hd (px_LV_get hl hx rfl) (G H locs cells slots ml hR hS hl hc hs)
    · rename_i hx
      obtain rfl := px_inl he
      intro H locs cells slots ml hR hS hl hc hs
      exact lv_aloadN F.1 F.2.1 hd (px_LV_get hl hx rfl) (G H locs cells slots ml hR hS hl hc hs)
    · rename_i x hx
      split at he
      · cases he
      · rename_i h999
        obtain rfl := px_inl he
        intro H locs cells slots ml hR hS hl hc hs
        have hv := px_LV_get hl hx rfl
        have hg := G H locs cells slots ml hR hS hl hc hs
        have hp : (∃ a, px_phi B b adK adV fm (.retAddr x) = .ref a) ∨ px_phi B b adK adV fm (.retAddr x) = fm := by
          show (∃ a, px_ra b adK adV fm x = .ref a) ∨ px_ra b adK adV fm x = fm
          unfold px_ra
          split
          · exact Or.inl ⟨_, rfl⟩
          · split
            · exact Or.inl ⟨_, rfl⟩
            · split
              · exact Or.inl ⟨_, rfl⟩
              · exact Or.inr rfl
        have hfm : fm = .null ∨ ∃ a, fm = .ref a := F.2.2.2.2.2.2.2.2.2.2.2.2.2.2.2.2.2.2.1
        have hq : px_phi B b adK adV fm (.retAddr x) = .null ∨ ∃ a, px_phi B b adK adV fm (.retAddr x) = .ref a := by
          rcases hp with h | h
          · exact Or.inr h
          · rcases hfm with h2 | ⟨a, h2⟩
            · exact Or.inl (h.trans h2)
            · exact Or.inr ⟨a, h.trans h2⟩
        rcases hq with hq | ⟨a, hq⟩
        · rw [hq] at hv
          simp only [List.map_cons, hq] at hg
          exact lv_aloadN F.1 F.2.1 hd hv hg
        · rw [hq] at hv
          simp only [List.map_cons, hq] at hg
          exact lv_aload F.1 F.2.1 hd hv hg
    · cases he
  · cases he

theorem px_s_aload_n (F : px_Fr k B b L xs adK adV fm D cA p s m args meth c) {v : Fin 4} (hd : decode (px_code k) pc = .ok (.aload_n v, len)) (he : px_exec xs L cf k (.aload_n v) len pc ls st h = some (.inl S2)) (G : px_G p l e R s m args below meth c Q B b adK adV fm D cA sl0 (px_maxL k) S2) : px_G p l e R s m args below meth c Q B b adK adV fm D cA sl0 (px_maxL k) (pc, ls, st, h) := by
  simp only [px_exec] at he
  split at he
  · rename_i hlen
    subst hlen
    unfold px_lda at he
    split at he
    · rename_i x hx
      obtain rfl := px_inl he
      intro H locs cells slots ml hR hS hl hc hs
      exact lv_aload_n F.1 F.2.1 hd rfl (px_LV_get hl hx rfl) (G H locs cells slots ml hR hS hl hc hs)
    · rename_i hx
      obtain rfl := px_inl he
      intro H locs cells slots ml hR hS hl hc hs
      exact lv_aload_nN F.1 F.2.1 hd rfl (px_LV_get hl hx rfl) (G H locs cells slots ml hR hS hl hc hs)
    · rename_i x hx
      split at he
      · cases he
      · rename_i h999
        obtain rfl := px_inl he
        intro H locs cells slots ml hR hS hl hc hs
        have hv := px_LV_get hl hx rfl
        have hg := G H locs cells slots ml hR hS hl hc hs
        have hp : (∃ a, px_phi B b adK adV fm (.retAddr x) = .ref a) ∨ px_phi B b adK adV fm (.retAddr x) = fm := by
          show (∃ a, px_ra b adK adV fm x = .ref a) ∨ px_ra b adK adV fm x = fm
          unfold px_ra
          split
          · exact Or.inl ⟨_, rfl⟩
          · split
            · exact Or.inl ⟨_, rfl⟩
            · split
              · exact Or.inl ⟨_, rfl⟩
              · exact Or.inr rfl
        have hfm : fm = .null ∨ ∃ a, fm = .ref a := F.2.2.2.2.2.2.2.2.2.2.2.2.2.2.2.2.2.2.1
        have hq : px_phi B b adK adV fm (.retAddr x) = .null ∨ ∃ a, px_phi B b adK adV fm (.retAddr x) = .ref a := by
          rcases hp with h | h
          · exact Or.inr h
          · rcases hfm with h2 | ⟨a, h2⟩
            · exact Or.inl (h.trans h2)
            · exact Or.inr ⟨a, h.trans h2⟩
        rcases hq with hq | ⟨a, hq⟩
        · rw [hq] at hv
          simp only [List.map_cons, hq] at hg
          exact lv_aload_nN F.1 F.2.1 hd rfl hv hg
        · rw [hq] at hv
          simp only [List.map_cons, hq] at hg
          exact lv_aload_n F.1 F.2.1 hd rfl hv hg
    · cases he
  · cases he

theorem px_s_istore (F : px_Fr k B b L xs adK adV fm D cA p s m args meth c) {v : Nat} (hd : decode (px_code k) pc = .ok (.istore v, len)) (he : px_exec xs L cf k (.istore v) len pc ls st h = some (.inl S2)) (G : px_G p l e R s m args below meth c Q B b adK adV fm D cA sl0 (px_maxL k) S2) : px_G p l e R s m args below meth c Q B b adK adV fm D cA sl0 (px_maxL k) (pc, ls, st, h) := by
  simp only [px_exec] at he
  split at he
  · rename_i hlen
    subst hlen
    unfold px_sti at he
    split at he
    · rename_i x r
      split at he
      · rename_i hi
        obtain rfl := px_inl he
        intro H locs cells slots ml hR hS hl hc hs
        exact lv_istore F.1 F.2.1 hd hl.2 (by have h0 : ls.length = px_maxL k := hl.1; omega) rfl (fun ml' h' => G H locs cells slots ml' hR hS (px_LV_set (v := .int x) (px_phi_cat F.2.2.2.2.2.2.2.2.2.2.2.2.2.2.2.2.2.2.2.1) hl rfl h') hc hs)
      · cases he
    · cases he
  · cases he

theorem px_s_istore_n (F : px_Fr k B b L xs adK adV fm D cA p s m args meth c) {v : Fin 4} (hd : decode (px_code k) pc = .ok (.istore_n v, len)) (he : px_exec xs L cf k (.istore_n v) len pc ls st h = some (.inl S2)) (G : px_G p l e R s m args below meth c Q B b adK adV fm D cA sl0 (px_maxL k) S2) : px_G p l e R s m args below meth c Q B b adK adV fm D cA sl0 (px_maxL k) (pc, ls, st, h) := by
  simp only [px_exec] at he
  split at he
  · rename_i hlen
    subst hlen
    unfold px_sti at he
    split at he
    · rename_i x r
      split at he
      · rename_i hi
        obtain rfl := px_inl he
        intro H locs cells slots ml hR hS hl hc hs
        exact lv_istore_n F.1 F.2.1 hd rfl hl.2 (by have h0 : ls.length = px_maxL k := hl.1; omega) rfl (fun ml' h' => G H locs cells slots ml' hR hS (px_LV_set (v := .int x) (px_phi_cat F.2.2.2.2.2.2.2.2.2.2.2.2.2.2.2.2.2.2.2.1) hl rfl h') hc hs)
      · cases he
    · cases he
  · cases he

theorem px_s_lstore (F : px_Fr k B b L xs adK adV fm D cA p s m args meth c) {v : Nat} (hd : decode (px_code k) pc = .ok (.lstore v, len)) (he : px_exec xs L cf k (.lstore v) len pc ls st h = some (.inl S2)) (G : px_G p l e R s m args below meth c Q B b adK adV fm D cA sl0 (px_maxL k) S2) : px_G p l e R s m args below meth c Q B b adK adV fm D cA sl0 (px_maxL k) (pc, ls, st, h) := by
  simp only [px_exec] at he
  split at he
  · rename_i hlen
    subst hlen
    unfold px_stl at he
    split at he
    · rename_i x r
      split at he
      · rename_i hi
        obtain rfl := px_inl he
        intro H locs cells slots ml hR hS hl hc hs
        exact lv_lstore F.1 F.2.1 hd hl.2 (by have h0 : ls.length = px_maxL k := hl.1; omega) rfl (fun ml' h' => G H locs cells slots ml' hR hS (px_LV_set2 (v := .long x) (px_phi_cat F.2.2.2.2.2.2.2.2.2.2.2.2.2.2.2.2.2.2.2.1) hl rfl h') hc hs)
      · cases he
    · cases he
  · cases he

theorem px_s_lstore_n (F : px_Fr k B b L xs adK adV fm D cA p s m args meth c) {v : Fin 4} (hd : decode (px_code k) pc = .ok (.lstore_n v, len)) (he : px_exec xs L cf k (.lstore_n v) len pc ls st h = some (.inl S2)) (G : px_G p l e R s m args below meth c Q B b adK adV fm D cA sl0 (px_maxL k) S2) : px_G p l e R s m args below meth c Q B b adK adV fm D cA sl0 (px_maxL k) (pc, ls, st, h) := by
  simp only [px_exec] at he
  split at he
  · rename_i hlen
    subst hlen
    unfold px_stl at he
    split at he
    · rename_i x r
      split at he
      · rename_i hi
        obtain rfl := px_inl he
        intro H locs cells slots ml hR hS hl hc hs
        exact lv_lstore_n F.1 F.2.1 hd rfl hl.2 (by have h0 : ls.length = px_maxL k := hl.1; omega) rfl (fun ml' h' => G H locs cells slots ml' hR hS (px_LV_set2 (v := .long x) (px_phi_cat F.2.2.2.2.2.2.2.2.2.2.2.2.2.2.2.2.2.2.2.1) hl rfl h') hc hs)
      · cases he
    · cases he
  · cases he

theorem px_s_astore (F : px_Fr k B b L xs adK adV fm D cA p s m args meth c) {v : Nat} (hd : decode (px_code k) pc = .ok (.astore v, len)) (he : px_exec xs L cf k (.astore v) len pc ls st h = some (.inl S2)) (G : px_G p l e R s m args below meth c Q B b adK adV fm D cA sl0 (px_maxL k) S2) : px_G p l e R s m args below meth c Q B b adK adV fm D cA sl0 (px_maxL k) (pc, ls, st, h) := by
  simp only [px_exec] at he
  split at he
  · rename_i hlen
    subst hlen
    unfold px_sta at he
    split at he
    · rename_i x r
      split at he
      · rename_i hi
        obtain rfl := px_inl he
        intro H locs cells slots ml hR hS hl hc hs
        exact lv_astore F.1 F.2.1 hd hl.2 (by have h0 : ls.length = px_maxL k := hl.1; omega) rfl (fun ml' h' => G H locs cells slots ml' hR hS (px_LV_set (v := .ref x) (px_phi_cat F.2.2.2.2.2.2.2.2.2.2.2.2.2.2.2.2.2.2.2.1) hl rfl h') hc hs)
      · cases he
    · rename_i r
      split at he
      · rename_i hi
        obtain rfl := px_inl he
        intro H locs cells slots ml hR hS hl hc hs
        exact lv_astoreN F.1 F.2.1 hd hl.2 (by have h0 : ls.length = px_maxL k := hl.1; omega) rfl (fun ml' h' => G H locs cells slots ml' hR hS (px_LV_set (v := .null) (px_phi_cat F.2.2.2.2.2.2.2.2.2.2.2.2.2.2.2.2.2.2.2.1) hl rfl h') hc hs)
      · cases he
    · cases he
  · cases he

theorem px_s_astore_n (F : px_Fr k B b L xs adK adV fm D cA p s m args meth c) {v : Fin 4} (hd : decode (px_code k) pc = .ok (.astore_n v, len)) (he : px_exec xs L cf k (.astore_n v) len pc ls st h = some (.inl S2)) (G : px_G p l e R s m args below meth c Q B b adK adV fm D cA sl0 (px_maxL k) S2) : px_G p l e R s m args below meth c Q B b adK adV fm D cA sl0 (px_maxL k) (pc, ls, st, h) := by
  simp only [px_exec] at he
  split at he
  · rename_i hlen
    subst hlen
    unfold px_sta at he
    split at he
    · rename_i x r
      split at he
      · rename_i hi
        obtain rfl := px_inl he
        intro H locs cells slots ml hR hS hl hc hs
        exact lv_astore_n F.1 F.2.1 hd rfl hl.2 (by have h0 : ls.length = px_maxL k := hl.1; omega) rfl (fun ml' h' => G H locs cells slots ml' hR hS (px_LV_set (v := .ref x) (px_phi_cat F.2.2.2.2.2.2.2.2.2.2.2.2.2.2.2.2.2.2.2.1) hl rfl h') hc hs)
      · cases he
    · rename_i r
      split at he
      · rename_i hi
        obtain rfl := px_inl he
        intro H locs cells slots ml hR hS hl hc hs
        exact lv_astore_nN F.1 F.2.1 hd rfl hl.2 (by have h0 : ls.length = px_maxL k := hl.1; omega) rfl (fun ml' h' => G H locs cells slots ml' hR hS (px_LV_set (v := .null) (px_phi_cat F.2.2.2.2.2.2.2.2.2.2.2.2.2.2.2.2.2.2.2.1) hl rfl h') hc hs)
      · cases he
    · cases he
  · cases he

theorem px_s_iinc (F : px_Fr k B b L xs adK adV fm D cA p s m args meth c) {v : Nat} {n : Int} (hd : decode (px_code k) pc = .ok (.iinc v n, len)) (he : px_exec xs L cf k (.iinc v n) len pc ls st h = some (.inl S2)) (G : px_G p l e R s m args below meth c Q B b adK adV fm D cA sl0 (px_maxL k) S2) : px_G p l e R s m args below meth c Q B b adK adV fm D cA sl0 (px_maxL k) (pc, ls, st, h) := by
  simp only [px_exec] at he
  split at he
  · rename_i hlen
    subst hlen
    split at he
    · rename_i x hx
      obtain rfl := px_inl he
      intro H locs cells slots ml hR hS hl hc hs
      obtain ⟨q, hq⟩ := List.mem_iff_getElem?.mp (px_al_mem (φ := px_phi B b adK adV fm) (q := (v, .int x)).mpr ⟨.int x, hx, rfl, rfl⟩)
      exact lv_iinc F.1 F.2.1 hd hl.2 hq rfl (by have h0 : ls.length = px_maxL k := hl.1; have := (List.getElem?_eq_some_iff.mp hx).1; omega) rfl (fun ml' h' => G H locs cells slots ml' hR hS (px_LV_set (v := .int (x + iI n)) (px_phi_cat F.2.2.2.2.2.2.2.2.2.2.2.2.2.2.2.2.2.2.2.1) hl rfl h') hc hs)
    · cases he
  · cases he

theorem px_s_iadd (F : px_Fr k B b L xs adK adV fm D cA p s m args meth c)  (hd : decode (px_code k) pc = .ok (.iadd, len)) (he : px_exec xs L cf k (.iadd) len pc ls st h = some (.inl S2)) (G : px_G p l e R s m args below meth c Q B b adK adV fm D cA sl0 (px_maxL k) S2) : px_G p l e R s m args below meth c Q B b adK adV fm D cA sl0 (px_maxL k) (pc, ls, st, h) := by
  simp only [px_exec] at he
  split at he
  · rename_i hlen
    subst hlen
    unfold px_ii at he
    split at he
    · rename_i y x r
      obtain rfl := px_inl he
      intro H locs cells slots ml hR hS hl hc hs
      exact lv_iadd F.1 F.2.1 hd (G H locs cells slots ml hR hS hl hc hs)
    · cases he
  · cases he

theorem px_s_isub (F : px_Fr k B b L xs adK adV fm D cA p s m args meth c)  (hd : decode (px_code k) pc = .ok (.isub, len)) (he : px_exec xs L cf k (.isub) len pc ls st h = some (.inl S2)) (G : px_G p l e R s m args below meth c Q B b adK adV fm D cA sl0 (px_maxL k) S2) : px_G p l e R s m args below meth c Q B b adK adV fm D cA sl0 (px_maxL k) (pc, ls, st, h) := by
  simp only [px_exec] at he
  split at he
  · rename_i hlen
    subst hlen
    unfold px_ii at he
    split at he
    · rename_i y x r
      obtain rfl := px_inl he
      intro H locs cells slots ml hR hS hl hc hs
      exact lv_isub F.1 F.2.1 hd (G H locs cells slots ml hR hS hl hc hs)
    · cases he
  · cases he

theorem px_s_imul (F : px_Fr k B b L xs adK adV fm D cA p s m args meth c)  (hd : decode (px_code k) pc = .ok (.imul, len)) (he : px_exec xs L cf k (.imul) len pc ls st h = some (.inl S2)) (G : px_G p l e R s m args below meth c Q B b adK adV fm D cA sl0 (px_maxL k) S2) : px_G p l e R s m args below meth c Q B b adK adV fm D cA sl0 (px_maxL k) (pc, ls, st, h) := by
  simp only [px_exec] at he
  split at he
  · rename_i hlen
    subst hlen
    unfold px_ii at he
    split at he
    · rename_i y x r
      obtain rfl := px_inl he
      intro H locs cells slots ml hR hS hl hc hs
      exact lv_imul F.1 F.2.1 hd (G H locs cells slots ml hR hS hl hc hs)
    · cases he
  · cases he

theorem px_s_iand (F : px_Fr k B b L xs adK adV fm D cA p s m args meth c)  (hd : decode (px_code k) pc = .ok (.iand, len)) (he : px_exec xs L cf k (.iand) len pc ls st h = some (.inl S2)) (G : px_G p l e R s m args below meth c Q B b adK adV fm D cA sl0 (px_maxL k) S2) : px_G p l e R s m args below meth c Q B b adK adV fm D cA sl0 (px_maxL k) (pc, ls, st, h) := by
  simp only [px_exec] at he
  split at he
  · rename_i hlen
    subst hlen
    unfold px_ii at he
    split at he
    · rename_i y x r
      obtain rfl := px_inl he
      intro H locs cells slots ml hR hS hl hc hs
      exact lv_iand F.1 F.2.1 hd (G H locs cells slots ml hR hS hl hc hs)
    · cases he
  · cases he

theorem px_s_ior (F : px_Fr k B b L xs adK adV fm D cA p s m args meth c)  (hd : decode (px_code k) pc = .ok (.ior, len)) (he : px_exec xs L cf k (.ior) len pc ls st h = some (.inl S2)) (G : px_G p l e R s m args below meth c Q B b adK adV fm D cA sl0 (px_maxL k) S2) : px_G p l e R s m args below meth c Q B b adK adV fm D cA sl0 (px_maxL k) (pc, ls, st, h) := by
  simp only [px_exec] at he
  split at he
  · rename_i hlen
    subst hlen
    unfold px_ii at he
    split at he
    · rename_i y x r
      obtain rfl := px_inl he
      intro H locs cells slots ml hR hS hl hc hs
      exact lv_ior F.1 F.2.1 hd (G H locs cells slots ml hR hS hl hc hs)
    · cases he
  · cases he

theorem px_s_ixor (F : px_Fr k B b L xs adK adV fm D cA p s m args meth c)  (hd : decode (px_code k) pc = .ok (.ixor, len)) (he : px_exec xs L cf k (.ixor) len pc ls st h = some (.inl S2)) (G : px_G p l e R s m args below meth c Q B b adK adV fm D cA sl0 (px_maxL k) S2) : px_G p l e R s m args below meth c Q B b adK adV fm D cA sl0 (px_maxL k) (pc, ls, st, h) := by
  simp only [px_exec] at he
  split at he
  · rename_i hlen
    subst hlen
    unfold px_ii at he
    split at he
    · rename_i y x r
      obtain rfl := px_inl he
      intro H locs cells slots ml hR hS hl hc hs
      exact lv_ixor F.1 F.2.1 hd (G H locs cells slots ml hR hS hl hc hs)
    · cases he
  · cases he

theorem px_s_ishl (F : px_Fr k B b L xs adK adV fm D cA p s m args meth c)  (hd : decode (px_code k) pc = .ok (.ishl, len)) (he : px_exec xs L cf k (.ishl) len pc ls st h = some (.inl S2)) (G : px_G p l e R s m args below meth c Q B b adK adV fm D cA sl0 (px_maxL k) S2) : px_G p l e R s m args below meth c Q B b adK adV fm D cA sl0 (px_maxL k) (pc, ls, st, h) := by
  simp only [px_exec] at he
  split at he
  · rename_i hlen
    subst hlen
    unfold px_ii at he
    split at he
    · rename_i y x r
      obtain rfl := px_inl he
      intro H locs cells slots ml hR hS hl hc hs
      exact lv_ishl F.1 F.2.1 hd (G H locs cells slots ml hR hS hl hc hs)
    · cases he
  · cases he

theorem px_s_ishr (F : px_Fr k B b L xs adK adV fm D cA p s m args meth c)  (hd : decode (px_code k) pc = .ok (.ishr, len)) (he : px_exec xs L cf k (.ishr) len pc ls st h = some (.inl S2)) (G : px_G p l e R s m args below meth c Q B b adK adV fm D cA sl0 (px_maxL k) S2) : px_G p l e R s m args below meth c Q B b adK adV fm D cA sl0 (px_maxL k) (pc, ls, st, h) := by
  simp only [px_exec] at he
  split at he
  · rename_i hlen
    subst hlen
    unfold px_ii at he
    split at he
    · rename_i y x r
      obtain rfl := px_inl he
      intro H locs cells slots ml hR hS hl hc hs
      exact lv_ishr F.1 F.2.1 hd (G H locs cells slots ml hR hS hl hc hs)
    · cases he
  · cases he

theorem px_s_iushr (F : px_Fr k B b L xs adK adV fm D cA p s m args meth c)  (hd : decode (px_code k) pc = .ok (.iushr, len)) (he : px_exec xs L cf k (.iushr) len pc ls st h = some (.inl S2)) (G : px_G p l e R s m args below meth c Q B b adK adV fm D cA sl0 (px_maxL k) S2) : px_G p l e R s m args below meth c Q B b adK adV fm D cA sl0 (px_maxL k) (pc, ls, st, h) := by
  simp only [px_exec] at he
  split at he
  · rename_i hlen
    subst hlen
    unfold px_ii at he
    split at he
    · rename_i y x r
      obtain rfl := px_inl he
      intro H locs cells slots ml hR hS hl hc hs
      exact lv_iushr F.1 F.2.1 hd rfl (G H locs cells slots ml hR hS hl hc hs)
    · cases he
  · cases he

theorem px_s_ladd (F : px_Fr k B b L xs adK adV fm D cA p s m args meth c)  (hd : decode (px_code k) pc = .ok (.ladd, len)) (he : px_exec xs L cf k (.ladd) len pc ls st h = some (.inl S2)) (G : px_G p l e R s m args below meth c Q B b adK adV fm D cA sl0 (px_maxL k) S2) : px_G p l e R s m args below meth c Q B b adK adV fm D cA sl0 (px_maxL k) (pc, ls, st, h) := by
  simp only [px_exec] at he
  split at he
  · rename_i hlen
    subst hlen
    unfold px_ll at he
    split at he
    · rename_i y x r
      obtain rfl := px_inl he
      intro H locs cells slots ml hR hS hl hc hs
      exact lv_ladd F.1 F.2.1 hd (G H locs cells slots ml hR hS hl hc hs)
    · cases he
  · cases he

theorem px_s_lsub (F : px_Fr k B b L xs adK adV fm D cA p s m args meth c)  (hd : decode (px_code k) pc = .ok (.lsub, len)) (he : px_exec xs L cf k (.lsub) len pc ls st h = some (.inl S2)) (G : px_G p l e R s m args below meth c Q B b adK adV fm D cA sl0 (px_maxL k) S2) : px_G p l e R s m args below meth c Q B b adK adV fm D cA sl0 (px_maxL k) (pc, ls, st, h) := by
  simp only [px_exec] at he
  split at he
  · rename_i hlen
    subst hlen
    unfold px_ll at he
    split at he
    · rename_i y x r
      obtain rfl := px_inl he
      intro H locs cells slots ml hR hS hl hc hs
      exact lv_lsub F.1 F.2.1 hd (G H locs cells slots ml hR hS hl hc hs)
    · cases he
  · cases he

theorem px_s_lmul (F : px_Fr k B b L xs adK adV fm D cA p s m args meth c)  (hd : decode (px_code k) pc = .ok (.lmul, len)) (he : px_exec xs L cf k (.lmul) len pc ls st h = some (.inl S2)) (G : px_G p l e R s m args below meth c Q B b adK adV fm D cA sl0 (px_maxL k) S2) : px_G p l e R s m args below meth c Q B b adK adV fm D cA sl0 (px_maxL k) (pc, ls, st, h) := by
  simp only [px_exec] at he
  split at he
  · rename_i hlen
    subst hlen
    unfold px_ll at he
    split at he
    · rename_i y x r
      obtain rfl := px_inl he
      intro H locs cells slots ml hR hS hl hc hs
      exact lv_lmul F.1 F.2.1 hd (G H locs cells slots ml hR hS hl hc hs)
    · cases he
  · cases he

theorem px_s_idiv (F : px_Fr k B b L xs adK adV fm D cA p s m args meth c)  (hd : decode (px_code k) pc = .ok (.idiv, len)) (he : px_exec xs L cf k (.idiv) len pc ls st h = some (.inl S2)) (G : px_G p l e R s m args below meth c Q B b adK adV fm D cA sl0 (px_maxL k) S2) : px_G p l e R s m args below meth c Q B b adK adV fm D cA sl0 (px_maxL k) (pc, ls, st, h) := by
  simp only [px_exec] at he
  split at he
  · rename_i hlen
    subst hlen
    split at he
    · rename_i y x r
      split at he
      · cases he
      · rename_i h0
        obtain rfl := px_inl he
        intro H locs cells slots ml hR hS hl hc hs
        exact lv_idiv F.1 F.2.1 hd h0 (G H locs cells slots ml hR hS hl hc hs)
    · cases he
  · cases he

theorem px_s_irem (F : px_Fr k B b L xs adK adV fm D cA p s m args meth c)  (hd : decode (px_code k) pc = .ok (.irem, len)) (he : px_exec xs L cf k (.irem) len pc ls st h = some (.inl S2)) (G : px_G p l e R s m args below meth c Q B b adK adV fm D cA sl0 (px_maxL k) S2) : px_G p l e R s m args below meth c Q B b adK adV fm D cA sl0 (px_maxL k) (pc, ls, st, h) := by
  simp only [px_exec] at he
  split at he
  · rename_i hlen
    subst hlen
    split at he
    · rename_i y x r
      split at he
      · cases he
      · rename_i h0
        obtain rfl := px_inl he
        intro H locs cells slots ml hR hS hl hc hs
        exact lv_irem F.1 F.2.1 hd h0 (G H locs cells slots ml hR hS hl hc hs)
    · cases he
  · cases he

theorem px_s_ldiv (F : px_Fr k B b L xs adK adV fm D cA p s m args meth c)  (hd : decode (px_code k) pc = .ok (.ldiv, len)) (he : px_exec xs L cf k (.ldiv) len pc ls st h = some (.inl S2)) (G : px_G p l e R s m args below meth c Q B b adK adV fm D cA sl0 (px_maxL k) S2) : px_G p l e R s m args below meth c Q B b adK adV fm D cA sl0 (px_maxL k) (pc, ls, st, h) := by
  simp only [px_exec] at he
  split at he
  · rename_i hlen
    subst hlen
    split at he
    · rename_i y x r
      split at he
      · cases he
      · rename_i h0
        obtain rfl := px_inl he
        intro H locs cells slots ml hR hS hl hc hs
        exact lv_ldiv F.1 F.2.1 hd h0 (G H locs cells slots ml hR hS hl hc hs)
    · cases he
  · cases he

theorem px_s_lrem (F : px_Fr k B b L xs adK adV fm D cA p s m args meth c)  (hd : decode (px_code k) pc = .ok (.lrem, len)) (he : px_exec xs L cf k (.lrem) len pc ls st h = some (.inl S2)) (G : px_G p l e R s m args below meth c Q B b adK adV fm D cA sl0 (px_maxL k) S2) : px_G p l e R s m args below meth c Q B b adK adV fm D cA sl0 (px_maxL k) (pc, ls, st, h) := by
  simp only [px_exec] at he
  split at he
  · rename_i hlen
    subst hlen
    split at he
    · rename_i y x r
      split at he
      · cases he
      · rename_i h0
        obtain rfl := px_inl he
        intro H locs cells slots ml hR hS hl hc hs
        exact lv_lrem F.1 F.2.1 hd h0 (G H locs cells slots ml hR hS hl hc hs)
    · cases he
  · cases he

theorem px_s_ineg (F : px_Fr k B b L xs adK adV fm D cA p s m args meth c)  (hd : decode (px_code k) pc = .ok (.ineg, len)) (he : px_exec xs L cf k (.ineg) len pc ls st h = some (.inl S2)) (G : px_G p l e R s m args below meth c Q B b adK adV fm D cA sl0 (px_maxL k) S2) : px_G p l e R s m args below meth c Q B b adK adV fm D cA sl0 (px_maxL k) (pc, ls, st, h) := by
  simp only [px_exec] at he
  split at he
  · rename_i hlen
    subst hlen
    split at he
    · rename_i x r
      obtain rfl := px_inl he
      intro H locs cells slots ml hR hS hl hc hs
      exact lv_ineg F.1 F.2.1 hd (G H locs cells slots ml hR hS hl hc hs)
    · cases he
  · cases he

theorem px_s_i2l (F : px_Fr k B b L xs adK adV fm D cA p s m args meth c)  (hd : decode (px_code k) pc = .ok (.i2l, len)) (he : px_exec xs L cf k (.i2l) len pc ls st h = some (.inl S2)) (G : px_G p l e R s m args below meth c Q B b adK adV fm D cA sl0 (px_maxL k) S2) : px_G p l e R s m args below meth c Q B b adK adV fm D cA sl0 (px_maxL k) (pc, ls, st, h) := by
  simp only [px_exec] at he
  split at he
  · rename_i hlen
    subst hlen
    split at he
    · rename_i x r
      obtain rfl := px_inl he
      intro H locs cells slots ml hR hS hl hc hs
      exact lv_i2l F.1 F.2.1 hd rfl (G H locs cells slots ml hR hS hl hc hs)
    · cases he
  · cases he

theorem px_s_l2i (F : px_Fr k B b L xs adK adV fm D cA p s m args meth c)  (hd : decode (px_code k) pc = .ok (.l2i, len)) (he : px_exec xs L cf k (.l2i) len pc ls st h = some (.inl S2)) (G : px_G p l e R s m args below meth c Q B b adK adV fm D cA sl0 (px_maxL k) S2) : px_G p l e R s m args below meth c Q B b adK adV fm D cA sl0 (px_maxL k) (pc, ls, st, h) := by
  simp only [px_exec] at he
  split at he
  · rename_i hlen
    subst hlen
    split at he
    · rename_i x r
      obtain rfl := px_inl he
      intro H locs cells slots ml hR hS hl hc hs
      exact lv_l2i F.1 F.2.1 hd rfl (G H locs cells slots ml hR hS hl hc hs)
    · cases he
  · cases he

theorem px_i2c_v {x : Int32} (h1 : 0 ≤ x.toInt) (h2 : x.toInt < 256) : (x.toUInt32 % 65536).toInt32 = x := by
  have hx : x = nI x.toInt.toNat := by
    unfold nI
    rw [← Int32.toInt_inj, Int32.toInt_ofNat', Int.bmod_eq_of_le (by simp only [Int32.size]; omega) (by simp only [Int32.size]; omega)]
    omega
  rw [pk_char]
  have hn : x.toBitVec.toNat = x.toInt.toNat := by
    rw [hx]
    rw [pk_tn (by omega), nI_toInt (by omega)]
    omega
  rw [hn, Nat.mod_eq_of_lt (by omega)]
  exact hx.symm

theorem px_s_i2c (F : px_Fr k B b L xs adK adV fm D cA p s m args meth c)  (hd : decode (px_code k) pc = .ok (.i2c, len)) (he : px_exec xs L cf k (.i2c) len pc ls st h = some (.inl S2)) (G : px_G p l e R s m args below meth c Q B b adK adV fm D cA sl0 (px_maxL k) S2) : px_G p l e R s m args below meth c Q B b adK adV fm D cA sl0 (px_maxL k) (pc, ls, st, h) := by
  simp only [px_exec] at he
  split at he
  · rename_i hlen
    subst hlen
    split at he
    · rename_i x r
      split at he
      · rename_i hx
        obtain rfl := px_inl he
        intro H locs cells slots ml hR hS hl hc hs
        exact lv_i2c F.1 F.2.1 hd (px_i2c_v hx.1 hx.2) (G H locs cells slots ml hR hS hl hc hs)
      · cases he
    · cases he
  · cases he

theorem px_s_lcmp (F : px_Fr k B b L xs adK adV fm D cA p s m args meth c)  (hd : decode (px_code k) pc = .ok (.lcmp, len)) (he : px_exec xs L cf k (.lcmp) len pc ls st h = some (.inl S2)) (G : px_G p l e R s m args below meth c Q B b adK adV fm D cA sl0 (px_maxL k) S2) : px_G p l e R s m args below meth c Q B b adK adV fm D cA sl0 (px_maxL k) (pc, ls, st, h) := by
  simp only [px_exec] at he
  split at he
  · rename_i hlen
    subst hlen
    split at he
    · rename_i y x r
      obtain rfl := px_inl he
      intro H locs cells slots ml hR hS hl hc hs
      exact W.lcmp F.1 F.2.1 hd (G H locs cells slots ml hR hS hl hc hs)
    · cases he
  · cases he

theorem px_s_dup (F : px_Fr k B b L xs adK adV fm D cA p s m args meth c)  (hd : decode (px_code k) pc = .ok (.dup, len)) (he : px_exec xs L cf k (.dup) len pc ls st h = some (.inl S2)) (G : px_G p l e R s m args below meth c Q B b adK adV fm D cA sl0 (px_maxL k) S2) : px_G p l e R s m args below meth c Q B b adK adV fm D cA sl0 (px_maxL k) (pc, ls, st, h) := by
  simp only [px_exec] at he
  split at he
  · rename_i hlen
    subst hlen
    split at he
    · rename_i v r
      split at he
      · rename_i hv
        obtain rfl := px_inl he
        intro H locs cells slots ml hR hS hl hc hs
        exact lv_dup F.1 F.2.1 hd (va := px_phi B b adK adV fm v) (by rw [px_phi_cat F.2.2.2.2.2.2.2.2.2.2.2.2.2.2.2.2.2.2.2.1]; exact hv) (G H locs cells slots ml hR hS hl hc hs)
      · cases he
    · cases he
  · cases he

theorem px_s_pop (F : px_Fr k B b L xs adK adV fm D cA p s m args meth c)  (hd : decode (px_code k) pc = .ok (.pop, len)) (he : px_exec xs L cf k (.pop) len pc ls st h = some (.inl S2)) (G : px_G p l e R s m args below meth c Q B b adK adV fm D cA sl0 (px_maxL k) S2) : px_G p l e R s m args below meth c Q B b adK adV fm D cA sl0 (px_maxL k) (pc, ls, st, h) := by
  simp only [px_exec] at he
  split at he
  · rename_i hlen
    subst hlen
    split at he
    · rename_i v r
      split at he
      · rename_i hv
        obtain rfl := px_inl he
        intro H locs cells slots ml hR hS hl hc hs
        exact lv_pop F.1 F.2.1 hd (va := px_phi B b adK adV fm v) (by rw [px_phi_cat F.2.2.2.2.2.2.2.2.2.2.2.2.2.2.2.2.2.2.2.1]; exact hv) (G H locs cells slots ml hR hS hl hc hs)
      · cases he
    · cases he
  · cases he

theorem px_s_dup2 (F : px_Fr k B b L xs adK adV fm D cA p s m args meth c)  (hd : decode (px_code k) pc = .ok (.dup2, len)) (he : px_exec xs L cf k (.dup2) len pc ls st h = some (.inl S2)) (G : px_G p l e R s m args below meth c Q B b adK adV fm D cA sl0 (px_maxL k) S2) : px_G p l e R s m args below meth c Q B b adK adV fm D cA sl0 (px_maxL k) (pc, ls, st, h) := by
  simp only [px_exec] at he
  split at he
  · rename_i hlen
    subst hlen
    split at he
    · rename_i v w r
      split at he
      · rename_i hv
        obtain rfl := px_inl he
        intro H locs cells slots ml hR hS hl hc hs
        exact lv_dup2_11 F.1 F.2.1 hd (va := px_phi B b adK adV fm v) (vb := px_phi B b adK adV fm w) (by rw [px_phi_cat F.2.2.2.2.2.2.2.2.2.2.2.2.2.2.2.2.2.2.2.1]; exact hv.1) (by rw [px_phi_cat F.2.2.2.2.2.2.2.2.2.2.2.2.2.2.2.2.2.2.2.1]; exact hv.2) (G H locs cells slots ml hR hS hl hc hs)
      · cases he
    · cases he
  · cases he

theorem px_s_goto (F : px_Fr k B b L xs adK adV fm D cA p s m args meth c) {off : Int} (hd : decode (px_code k) pc = .ok (.goto off, len)) (he : px_exec xs L cf k (.goto off) len pc ls st h = some (.inl S2)) (G : px_G p l e R s m args below meth c Q B b adK adV fm D cA sl0 (px_maxL k) S2) : px_G p l e R s m args below meth c Q B b adK adV fm D cA sl0 (px_maxL k) (pc, ls, st, h) := by
  simp only [px_exec] at he
  split at he
  · rename_i hlen
    subst hlen
    obtain ⟨ht, ⟨-, rfl⟩ | ⟨hn, -⟩⟩ := px_brl he
    · intro H locs cells slots ml hR hS hl hc hs
      exact lv_goto F.1 F.2.1 hd ht (G H locs cells slots ml hR hS hl hc hs)
    · exact absurd trivial hn
  · cases he

theorem px_s_if_eq (F : px_Fr k B b L xs adK adV fm D cA p s m args meth c) {off : Int} (hd : decode (px_code k) pc = .ok (.ifCond .eq off, len)) (he : px_exec xs L cf k (.ifCond .eq off) len pc ls st h = some (.inl S2)) (G : px_G p l e R s m args below meth c Q B b adK adV fm D cA sl0 (px_maxL k) S2) : px_G p l e R s m args below meth c Q B b adK adV fm D cA sl0 (px_maxL k) (pc, ls, st, h) := by
  simp only [px_exec] at he
  split at he
  · rename_i hlen
    subst hlen
    split at he
    · rename_i x r
      obtain ⟨ht, hq⟩ := px_brl he
      intro H locs cells slots ml hR hS hl hc hs
      refine lv_if_eq F.1 F.2.1 hd ht (fun hcc => ?_) (fun hcc => ?_)
      · rcases hq with ⟨-, rfl⟩ | ⟨hn, -⟩
        · exact G H locs cells slots ml hR hS hl hc hs
        · first | exact absurd hcc hn | exact absurd hn hcc
      · rcases hq with ⟨hn, -⟩ | ⟨-, rfl⟩
        · first | exact absurd hn hcc | exact absurd hcc hn
        · exact G H locs cells slots ml hR hS hl hc hs
    · cases he
  · cases he

theorem px_s_icmp_eq (F : px_Fr k B b L xs adK adV fm D cA p s m args meth c) {off : Int} (hd : decode (px_code k) pc = .ok (.if_icmp .eq off, len)) (he : px_exec xs L cf k (.if_icmp .eq off) len pc ls st h = some (.inl S2)) (G : px_G p l e R s m args below meth c Q B b adK adV fm D cA sl0 (px_maxL k) S2) : px_G p l e R s m args below meth c Q B b adK adV fm D cA sl0 (px_maxL k) (pc, ls, st, h) := by
  simp only [px_exec] at he
  split at he
  · rename_i hlen
    subst hlen
    split at he
    · rename_i y x r
      obtain ⟨ht, hq⟩ := px_brl he
      intro H locs cells slots ml hR hS hl hc hs
      refine lv_icmp_eq F.1 F.2.1 hd ht (fun hcc => ?_) (fun hcc => ?_)
      · rcases hq with ⟨-, rfl⟩ | ⟨hn, -⟩
        · exact G H locs cells slots ml hR hS hl hc hs
        · first | exact absurd hcc hn | exact absurd hn hcc
      · rcases hq with ⟨hn, -⟩ | ⟨-, rfl⟩
        · first | exact absurd hn hcc | exact absurd hcc hn
        · exact G H locs cells slots ml hR hS hl hc hs
    · cases he
  · cases he

theorem px_s_if_ne (F : px_Fr k B b L xs adK adV fm D cA p s m args meth c) {off : Int} (hd : decode (px_code k) pc = .ok (.ifCond .ne off, len)) (he : px_exec xs L cf k (.ifCond .ne off) len pc ls st h = some (.inl S2)) (G : px_G p l e R s m args below meth c Q B b adK adV fm D cA sl0 (px_maxL k) S2) : px_G p l e R s m args below meth c Q B b adK adV fm D cA sl0 (px_maxL k) (pc, ls, st, h) := by
  simp only [px_exec] at he
  split at he
  · rename_i hlen
    subst hlen
    split at he
    · rename_i x r
      obtain ⟨ht, hq⟩ := px_brl he
      intro H locs cells slots ml hR hS hl hc hs
      refine lv_if_ne F.1 F.2.1 hd ht (fun hcc => ?_) (fun hcc => ?_)
      · rcases hq with ⟨-, rfl⟩ | ⟨hn, -⟩
        · exact G H locs cells slots ml hR hS hl hc hs
        · first | exact absurd hcc hn | exact absurd hn hcc
      · rcases hq with ⟨hn, -⟩ | ⟨-, rfl⟩
        · first | exact absurd hn hcc | exact absurd hcc hn
        · exact G H locs cells slots ml hR hS hl hc hs
    · cases he
  · cases he

theorem px_s_icmp_ne (F : px_Fr k B b L xs adK adV fm D cA p s m args meth c) {off : Int} (hd : decode (px_code k) pc = .ok (.if_icmp .ne off, len)) (he : px_exec xs L cf k (.if_icmp .ne off) len pc ls st h = some (.inl S2)) (G : px_G p l e R s m args below meth c Q B b adK adV fm D cA sl0 (px_maxL k) S2) : px_G p l e R s m args below meth c Q B b adK adV fm D cA sl0 (px_maxL k) (pc, ls, st, h) := by
  simp only [px_exec] at he
  split at he
  · rename_i hlen
    subst hlen
    split at he
    · rename_i y x r
      obtain ⟨ht, hq⟩ := px_brl he
      intro H locs cells slots ml hR hS hl hc hs
      refine lv_icmp_ne F.1 F.2.1 hd ht (fun hcc => ?_) (fun hcc => ?_)
      · rcases hq with ⟨-, rfl⟩ | ⟨hn, -⟩
        · exact G H locs cells slots ml hR hS hl hc hs
        · first | exact absurd hcc hn | exact absurd hn hcc
      · rcases hq with ⟨hn, -⟩ | ⟨-, rfl⟩
        · first | exact absurd hn hcc | exact absurd hcc hn
        · exact G H locs cells slots ml hR hS hl hc hs
    · cases he
  · cases he

theorem px_s_if_lt (F : px_Fr k B b L xs adK adV fm D cA p s m args meth c) {off : Int} (hd : decode (px_code k) pc = .ok (.ifCond .lt off, len)) (he : px_exec xs L cf k (.ifCond .lt off) len pc ls st h = some (.inl S2)) (G : px_G p l e R s m args below meth c Q B b adK adV fm D cA sl0 (px_maxL k) S2) : px_G p l e R s m args below meth c Q B b adK adV fm D cA sl0 (px_maxL k) (pc, ls, st, h) := by
  simp only [px_exec] at he
  split at he
  · rename_i hlen
    subst hlen
    split at he
    · rename_i x r
      obtain ⟨ht, hq⟩ := px_brl he
      intro H locs cells slots ml hR hS hl hc hs
      refine lv_if_lt F.1 F.2.1 hd ht (fun hcc => ?_) (fun hcc => ?_)
      · rcases hq with ⟨-, rfl⟩ | ⟨hn, -⟩
        · exact G H locs cells slots ml hR hS hl hc hs
        · first | exact absurd hcc hn | exact absurd hn hcc
      · rcases hq with ⟨hn, -⟩ | ⟨-, rfl⟩
        · first | exact absurd hn hcc | exact absurd hcc hn
        · exact G H locs cells slots ml hR hS hl hc hs
    · cases he
  · cases he

theorem px_s_icmp_lt (F : px_Fr k B b L xs adK adV fm D cA p s m args meth c) {off : Int} (hd : decode (px_code k) pc = .ok (.if_icmp .lt off, len)) (he : px_exec xs L cf k (.if_icmp .lt off) len pc ls st h = some (.inl S2)) (G : px_G p l e R s m args below meth c Q B b adK adV fm D cA sl0 (px_maxL k) S2) : px_G p l e R s m args below meth c Q B b adK adV fm D cA sl0 (px_maxL k) (pc, ls, st, h) := by
  simp only [px_exec] at he
  split at he
  · rename_i hlen
    subst hlen
    split at he
    · rename_i y x r
      obtain ⟨ht, hq⟩ := px_brl he
      intro H locs cells slots ml hR hS hl hc hs
      refine lv_icmp_lt F.1 F.2.1 hd ht (fun hcc => ?_) (fun hcc => ?_)
      · rcases hq with ⟨-, rfl⟩ | ⟨hn, -⟩
        · exact G H locs cells slots ml hR hS hl hc hs
        · first | exact absurd hcc hn | exact absurd hn hcc
      · rcases hq with ⟨hn, -⟩ | ⟨-, rfl⟩
        · first | exact absurd hn hcc | exact absurd hcc hn
        · exact G H locs cells slots ml hR hS hl hc hs
    · cases he
  · cases he

theorem px_s_if_ge (F : px_Fr k B b L xs adK adV fm D cA p s m args meth c) {off : Int} (hd : decode (px_code k) pc = .ok (.ifCond .ge off, len)) (he : px_exec xs L cf k (.ifCond .ge off) len pc ls st h = some (.inl S2)) (G : px_G p l e R s m args below meth c Q B b adK adV fm D cA sl0 (px_maxL k) S2) : px_G p l e R s m args below meth c Q B b adK adV fm D cA sl0 (px_maxL k) (pc, ls, st, h) := by
  simp only [px_exec] at he
  split at he
  · rename_i hlen
    subst hlen
    split at he
    · rename_i x r
      obtain ⟨ht, hq⟩ := px_brl he
      intro H locs cells slots ml hR hS hl hc hs
      refine lv_if_ge F.1 F.2.1 hd ht (fun hcc => ?_) (fun hcc => ?_)
      · rcases hq with ⟨-, rfl⟩ | ⟨hn, -⟩
        · exact G H locs cells slots ml hR hS hl hc hs
        · first | exact absurd hcc hn | exact absurd hn hcc
      · rcases hq with ⟨hn, -⟩ | ⟨-, rfl⟩
        · first | exact absurd hn hcc | exact absurd hcc hn
        · exact G H locs cells slots ml hR hS hl hc hs
    · cases he
  · cases he

theorem px_s_icmp_ge (F : px_Fr k B b L xs adK adV fm D cA p s m args meth c) {off : Int} (hd : decode (px_code k) pc = .ok (.if_icmp .ge off, len)) (he : px_exec xs L cf k (.if_icmp .ge off) len pc ls st h = some (.inl S2)) (G : px_G p l e R s m args below meth c Q B b adK adV fm D cA sl0 (px_maxL k) S2) : px_G p l e R s m args below meth c Q B b adK adV fm D cA sl0 (px_maxL k) (pc, ls, st, h) := by
  simp only [px_exec] at he
  split at he
  · rename_i hlen
    subst hlen
    split at he
    · rename_i y x r
      obtain ⟨ht, hq⟩ := px_brl he
      intro H locs cells slots ml hR hS hl hc hs
      refine lv_icmp_ge F.1 F.2.1 hd ht (fun hcc => ?_) (fun hcc => ?_)
      · rcases hq with ⟨-, rfl⟩ | ⟨hn, -⟩
        · exact G H locs cells slots ml hR hS hl hc hs
        · first | exact absurd hcc hn | exact absurd hn hcc
      · rcases hq with ⟨hn, -⟩ | ⟨-, rfl⟩
        · first | exact absurd hn hcc | exact absurd hcc hn
        · exact G H locs cells slots ml hR hS hl hc hs
    · cases he
  · cases he

theorem px_s_if_gt (F : px_Fr k B b L xs adK adV fm D cA p s m args meth c) {off : Int} (hd : decode (px_code k) pc = .ok (.ifCond .gt off, len)) (he : px_exec xs L cf k (.ifCond .gt off) len pc ls st h = some (.inl S2)) (G : px_G p l e R s m args below meth c Q B b adK adV fm D cA sl0 (px_maxL k) S2) : px_G p l e R s m args below meth c Q B b adK adV fm D cA sl0 (px_maxL k) (pc, ls, st, h) := by
  simp only [px_exec] at he
  split at he
  · rename_i hlen
    subst hlen
    split at he
    · rename_i x r
      obtain ⟨ht, hq⟩ := px_brl he
      intro H locs cells slots ml hR hS hl hc hs
      refine lv_if_gt F.1 F.2.1 hd ht (fun hcc => ?_) (fun hcc => ?_)
      · rcases hq with ⟨-, rfl⟩ | ⟨hn, -⟩
        · exact G H locs cells slots ml hR hS hl hc hs
        · first | exact absurd hcc hn | exact absurd hn hcc
      · rcases hq with ⟨hn, -⟩ | ⟨-, rfl⟩
        · first | exact absurd hn hcc | exact absurd hcc hn
        · exact G H locs cells slots ml hR hS hl hc hs
    · cases he
  · cases he

theorem px_s_icmp_gt (F : px_Fr k B b L xs adK adV fm D cA p s m args meth c) {off : Int} (hd : decode (px_code k) pc = .ok (.if_icmp .gt off, len)) (he : px_exec xs L cf k (.if_icmp .gt off) len pc ls st h = some (.inl S2)) (G : px_G p l e R s m args below meth c Q B b adK adV fm D cA sl0 (px_maxL k) S2) : px_G p l e R s m args below meth c Q B b adK adV fm D cA sl0 (px_maxL k) (pc, ls, st, h) := by
  simp only [px_exec] at he
  split at he
  · rename_i hlen
    subst hlen
    split at he
    · rename_i y x r
      obtain ⟨ht, hq⟩ := px_brl he
      intro H locs cells slots ml hR hS hl hc hs
      refine lv_icmp_gt F.1 F.2.1 hd ht (fun hcc => ?_) (fun hcc => ?_)
      · rcases hq with ⟨-, rfl⟩ | ⟨hn, -⟩
        · exact G H locs cells slots ml hR hS hl hc hs
        · first | exact absurd hcc hn | exact absurd hn hcc
      · rcases hq with ⟨hn, -⟩ | ⟨-, rfl⟩
        · first | exact absurd hn hcc | exact absurd hcc hn
        · exact G H locs cells slots ml hR hS hl hc hs
    · cases he
  · cases he

theorem px_s_if_le (F : px_Fr k B b L xs adK adV fm D cA p s m args meth c) {off : Int} (hd : decode (px_code k) pc = .ok (.ifCond .le off, len)) (he : px_exec xs L cf k (.ifCond .le off) len pc ls st h = some (.inl S2)) (G : px_G p l e R s m args below meth c Q B b adK adV fm D cA sl0 (px_maxL k) S2) : px_G p l e R s m args below meth c Q B b adK adV fm D cA sl0 (px_maxL k) (pc, ls, st, h) := by
  simp only [px_exec] at he
  split at he
  · rename_i hlen
    subst hlen
    split at he
    · rename_i x r
      obtain ⟨ht, hq⟩ := px_brl he
      intro H locs cells slots ml hR hS hl hc hs
      refine lv_if_le F.1 F.2.1 hd ht (fun hcc => ?_) (fun hcc => ?_)
      · rcases hq with ⟨-, rfl⟩ | ⟨hn, -⟩
        · exact G H locs cells slots ml hR hS hl hc hs
        · first | exact absurd hcc hn | exact absurd hn hcc
      · rcases hq with ⟨hn, -⟩ | ⟨-, rfl⟩
        · first | exact absurd hn hcc | exact absurd hcc hn
        · exact G H locs cells slots ml hR hS hl hc hs
    · cases he
  · cases he

theorem px_s_icmp_le (F : px_Fr k B b L xs adK adV fm D cA p s m args meth c) {off : Int} (hd : decode (px_code k) pc = .ok (.if_icmp .le off, len)) (he : px_exec xs L cf k (.if_icmp .le off) len pc ls st h = some (.inl S2)) (G : px_G p l e R s m args below meth c Q B b adK adV fm D cA sl0 (px_maxL k) S2) : px_G p l e R s m args below meth c Q B b adK adV fm D cA sl0 (px_maxL k) (pc, ls, st, h) := by
  simp only [px_exec] at he
  split at he
  · rename_i hlen
    subst hlen
    split at he
    · rename_i y x r
      obtain ⟨ht, hq⟩ := px_brl he
      intro H locs cells slots ml hR hS hl hc hs
      refine lv_icmp_le F.1 F.2.1 hd ht (fun hcc => ?_) (fun hcc => ?_)
      · rcases hq with ⟨-, rfl⟩ | ⟨hn, -⟩
        · exact G H locs cells slots ml hR hS hl hc hs
        · first | exact absurd hcc hn | exact absurd hn hcc
      · rcases hq with ⟨hn, -⟩ | ⟨-, rfl⟩
        · first | exact absurd hn hcc | exact absurd hcc hn
        · exact G H locs cells slots ml hR hS hl hc hs
    · cases he
  · cases he

theorem px_s_ifnonnull (F : px_Fr k B b L xs adK adV fm D cA p s m args meth c) {off : Int} (hd : decode (px_code k) pc = .ok (.ifnonnull off, len)) (he : px_exec xs L cf k (.ifnonnull off) len pc ls st h = some (.inl S2)) (G : px_G p l e R s m args below meth c Q B b adK adV fm D cA sl0 (px_maxL k) S2) : px_G p l e R s m args below meth c Q B b adK adV fm D cA sl0 (px_maxL k) (pc, ls, st, h) := by
  simp only [px_exec] at he
  split at he
  · rename_i hlen
    subst hlen
    split at he
    · rename_i x r
      obtain ⟨ht, ⟨-, rfl⟩ | ⟨hn, -⟩⟩ := px_brl he
      · intro H locs cells slots ml hR hS hl hc hs
        exact lv_ifnonnull F.1 F.2.1 hd ht (G H locs cells slots ml hR hS hl hc hs)
      · exact absurd trivial hn
    · rename_i r
      obtain rfl := px_inl he
      intro H locs cells slots ml hR hS hl hc hs
      exact lv_ifnonnullN F.1 F.2.1 hd (G H locs cells slots ml hR hS hl hc hs)
    · cases he
  · cases he

theorem px_s_tableswitch (F : px_Fr k B b L xs adK adV fm D cA p s m args meth c) {dflt lo hi : Int} {offs : Array Int} (hd : decode (px_code k) pc = .ok (.tableswitch dflt lo hi offs, len)) (he : px_exec xs L cf k (.tableswitch dflt lo hi offs) len pc ls st h = some (.inl S2)) (G : px_G p l e R s m args below meth c Q B b adK adV fm D cA sl0 (px_maxL k) S2) : px_G p l e R s m args below meth c Q B b adK adV fm D cA sl0 (px_maxL k) (pc, ls, st, h) := by
  simp only [px_exec] at he
  split at he
  · rename_i x r
    split at he
    · rename_i hx
      obtain ⟨ht, ⟨-, rfl⟩ | ⟨hn, -⟩⟩ := px_brl he
      · intro H locs cells slots ml hR hS hl hc hs
        exact lv_tableOut F.1 F.2.1 hd hx ht (G H locs cells slots ml hR hS hl hc hs)
      · exact absurd trivial hn
    · rename_i hx
      split at he
      · rename_i off ho
        obtain ⟨ht, ⟨-, rfl⟩ | ⟨hn, -⟩⟩ := px_brl he
        · intro H locs cells slots ml hR hS hl hc hs
          exact lv_tableIn F.1 F.2.1 hd (fun q => hx (Or.inl q)) (fun q => hx (Or.inr q)) ho ht (G H locs cells slots ml hR hS hl hc hs)
        · exact absurd trivial hn
      · cases he
  · cases he

end PXA

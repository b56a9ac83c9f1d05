/-! every call that the pure machine runs is one of the machine's -/
theorem px_slots_len {φ : Value → Value} (hφ : ∀ v, (φ v).category = v.category) : ∀ as : List Value, (lg_sl (as.map φ)).length = (px_slots as).length := by
  intro as
  induction as with
  | nil => rfl
  | cons v r ih =>
    have e : lg_sl ((v :: r).map φ) = (if (φ v).category = 2 then [.val (φ v), .second] else [.val (φ v)]) ++ lg_sl (r.map φ) := by simp [lg_sl]
    rw [e, List.length_append, ih, hφ]
    cases v <;> simp [px_slots, Value.category] <;> omega
theorem px_slots_in {φ : Value → Value} (hφ : ∀ v, (φ v).category = v.category) : ∀ (as : List Value) (i j : Nat) (v : Value), (px_slots as)[j]? = some v → px_ok v = true → (i + j, φ v) ∈ lv_args i (as.map φ) := by
  intro as
  induction as with
  | nil => intro i j v e; simp [px_slots] at e
  | cons w r ih =>
    intro i j v e hk
    have two : w.category = 2 → px_slots (w :: r) = w :: px_jk :: px_slots r → (i + j, φ v) ∈ lv_args i ((w :: r).map φ) := by
      intro hc hs
      rw [hs] at e
      simp only [List.map_cons, lv_args, hφ, hc, if_true]
      match j, e with
      | 0, e =>
        simp only [List.getElem?_cons_zero, Option.some.injEq] at e
        subst e
        exact List.mem_cons_self
      | 1, e =>
        simp only [List.getElem?_cons_succ, List.getElem?_cons_zero, Option.some.injEq] at e
        subst e
        cases hk
      | j + 2, e =>
        simp only [List.getElem?_cons_succ] at e
        have := ih (i + 2) j v e hk
        rw [show i + (j + 2) = i + 2 + j by omega]
        exact List.mem_cons_of_mem _ this
    have one : w.category = 1 → px_slots (w :: r) = w :: px_slots r → (i + j, φ v) ∈ lv_args i ((w :: r).map φ) := by
      intro hc hs
      rw [hs] at e
      simp only [List.map_cons, lv_args, hφ, hc, show ¬ (1 : Nat) = 2 by decide, if_false]
      match j, e with
      | 0, e =>
        simp only [List.getElem?_cons_zero, Option.some.injEq] at e
        subst e
        exact List.mem_cons_self
      | j + 1, e =>
        simp only [List.getElem?_cons_succ] at e
        have := ih (i + 1) j v e hk
        rw [show i + (j + 1) = i + 1 + j by omega]
        exact List.mem_cons_of_mem _ this
    cases w
    case long x => exact two rfl rfl
    case double x => exact two rfl rfl
    all_goals exact one rfl rfl
theorem px_ent_LV {φ : Value → Value} (hφ : ∀ v, (φ v).category = v.category) {as : List Value} {n : Nat} (hn : (px_slots as).length ≤ n) : px_LV φ n (px_ent as n) ((lg_sl (as.map φ) ++ List.replicate (n - (lg_sl (as.map φ)).length) Slot.unset).toArray) := by
  have h1 := lv_entry (as.map φ) (n := n) (by rw [px_slots_len hφ]; exact hn)
  refine ⟨by unfold px_ent; simp; omega, h1.1, h1.2.1, fun q hq => ?_⟩
  obtain ⟨v, e, hk, hv⟩ := px_al_mem.mp hq
  unfold px_ent at e
  by_cases hj : q.1 < (px_slots as).length
  · rw [List.getElem?_append_left hj] at e
    have := px_slots_in hφ as 0 q.1 v e hk
    rw [Nat.zero_add] at this
    have h2 := h1.2.2 (q.1, φ v) this
    rw [hv]
    exact h2
  · rw [List.getElem?_append_right (by omega)] at e
    have h2 := List.mem_of_getElem? e
    rw [List.mem_replicate] at h2
    rw [h2.2] at hk
    cases hk
theorem px_ev_le {xs : Nat → Int} {L n : Nat} : ∀ (d t : Nat) (as : List Value) (h : px_H) (r : Option Value) (h2 : px_H), px_ev xs L n d t as h = some (r, h2) → px_le h h2 := by
  intro d
  induction d with
  | zero => intro t as h r h2 he; cases he
  | succ d ih =>
    intro t as h r h2 he
    simp only [px_ev] at he
    split at he
    · exact px_run_le (fun t as h r h2 => ih t as h r h2) n (0, px_ent as (px_maxL t), [], h) he
    · cases he
theorem px_met {l : Launch} {B b L n : Nat} {xs : Nat → Int} {adK adV : Nat → Nat} {fm : Value} {D : va_G} {cA : Nat → ClassId} (hfm : fm.category = 1) : ∀ (d t : Nat) (as : List Value) (h : px_H) (r : Option Value) (h2 : px_H), px_ev xs L n d t as h = some (r, h2) → px_Ct l B b L xs adK adV fm D cA d t as h r h2 := by
  intro d
  induction d with
  | zero => intro t as h r h2 he; cases he
  | succ d ih =>
    intro t as h r h2 he
    have hm := px_ev_le (d + 1) t as h r h2 he
    refine ⟨hm.1, hm.2, fun t1 t2 => ?_⟩
    obtain ⟨m1, m2, m3, m4, m5, m6, m7, m8, m9⟩ := px_meth_ok t1 t2
    simp only [px_ev] at he
    split at he
    · rename_i hlen
      refine Met.ofW (cc := px_code t) (maxL := px_maxL t) (ret := px_ret t) m3 rfl ?_
      intro p e s m args below meth c s₁ BB hml hP
      obtain ⟨hargs, hR, hz, hSt⟩ := hP
      have hts0 := atoms_spec (ws := .code (px_y t) (px_code t) (px_maxL t) (px_ret t) :: px_gw) BB.pre
      have hown : s.vm.findClass (px_y t).cls = some m.cls := findClass_of_methodNamed BB.named
      have F : px_Fr t B b L xs adK adV fm D cA p s m args meth c := by
        refine ⟨BB.exec, BB.bytes, hml, by rw [m5]; exact hown, fun w hw => hts0 w (List.mem_cons_of_mem _ hw), fun hi => ?_, BB.returns, BB.notSynchronized, by omega, hSt⟩
        unfold px_isInit at hi
        rw [(name_of_methodNamed BB.named BB.method).1]
        exact eq_of_beq hi
      have hG := px_sim_run (l := l) (e := e) (R := (headSpec (.code (px_y t) (px_code t) (px_maxL t) (px_ret t) :: px_gw) (px_rm (d + 1) h h2)).room) (below := below) (sl0 := px_sl h) (Q := MQ below (px_Qc B b adK adV fm D cA r h2) args s (h2.1.length - h.1.length) (px_sl h2 - px_sl h) (fun q => B ≤ q)) F (fun t as h r h2 => ih t as h r h2) (Nat.le_refl _) (Nat.le_refl _)
        ⟨by show B + h2.1.length ≤ s.heap.size + (h2.1.length - h.1.length); have := hm.1; omega, by show px_sl h2 ≤ px_sl h + (px_sl h2 - px_sl h); omega⟩
        (fun pc ls st h' ins len hd hx => px_fin_met (fun t as h r h2 => px_ev_le d t as h r h2) F hz hd hx) n (0, px_ent as (px_maxL t), [], h) he
      subst hargs
      rw [lg_entry_eq]
      exact hG s.heap [] 0 0 _ hR va_S.rf (px_ent_LV (px_phi_cat hfm) hlen) hz rfl
    · cases he

/-! calls -/
/-- the contract of a call of method t, as the pure machine runs it: at most d frames deep -/
def px_Pc (B b L : Nat) (xs : Nat → Int) (adK adV : Nat → Nat) (fm : Value) (D : va_G) (cA : Nat → ClassId) (as : List Value) (h : px_H) : Array Value → State → Prop := va_Pc (as.map (px_phi B b adK adV fm)) (fun U => px_Rep B cA D h U.heap ∧ U.heap.size = B + h.1.length ∧ px_St B b L xs adK adV fm D cA U U.heap)
def px_Qc (B b : Nat) (adK adV : Nat → Nat) (fm : Value) (D : va_G) (cA : Nat → ClassId) (r : Option Value) (h : px_H) : Array Value → State → Outcome → State → Prop := fun _ st oc t => oc = .returned (r.map (px_phi B b adK adV fm)) ∧ px_Rep B cA D h t.heap ∧ st.heap.size ≤ t.heap.size ∧ ∀ q : Nat, q < st.heap.size → ¬ B ≤ q → t.heap[q]? = st.heap[q]?
def px_rm (d : Nat) (h h2 : px_H) : Room := { frames := d, cells := h2.1.length - h.1.length, slots := px_sl h2 - px_sl h, locals := 60 * d }
def px_Ct (l : Launch) (B b L : Nat) (xs : Nat → Int) (adK adV : Nat → Nat) (fm : Value) (D : va_G) (cA : Nat → ClassId) (d t : Nat) (as : List Value) (h : px_H) (r : Option Value) (h2 : px_H) : Prop :=
  h.1.length ≤ h2.1.length ∧ px_sl h ≤ px_sl h2 ∧ (1 ≤ t → t < 305 → Met l (px_y t) (.code (px_y t) (px_code t) (px_maxL t) (px_ret t) :: px_gw) (px_rm d h h2) (px_Pc B b L xs adK adV fm D cA as h) (px_Qc B b adK adV fm D cA r h2) (h2.1.length - h.1.length) (px_sl h2 - px_sl h) (fun q => B ≤ q))
section PXD
variable {p : Program} {l : Launch} {e : Env} {R : Room} {s : State} {m : MethodId} {args : Array Value} {below : List Frame} {meth : Method} {c : Code} {Q : State → Prop}
variable {B b L : Nat} {xs : Nat → Int} {adK adV : Nat → Nat} {fm : Value} {D : va_G} {cA : Nat → ClassId} {sl0 : Nat}
variable {cf : Nat → List Value → px_H → Option (Option Value × px_H)} {k len pc : Nat} {ls st : List Value} {h : px_H} {S2 : px_S}
theorem px_blind {as : List Value} : FrameBlind (px_Pc B b L xs adK adV fm D cA as h) := by
  intro a U g mk hp
  obtain ⟨h1, h2, h3, h4⟩ := hp
  exact ⟨h1, h2, h3, px_St_moved (State.WarmedH.refl U) (Nat.le_refl _) (fun _ _ _ => rfl) h4⟩
theorem px_after {H : Heap} {locs : List Loc} {cells slots mc ms : Nat} {ml : Array Slot} {st0 rest : List Value} {r : Option Value} {h2 : px_H} {a : Array Value} (hr : va_Run p l e R s m args below meth c H locs cells slots mc ms (F0 m pc ml st0) rest (px_Qc B b adK adV fm D cA r h2 a) (fun q => B ≤ q)) (hS : va_S (fun q => B ≤ q) s.heap H locs)
    (kk : ∀ (H1 : Heap) (locs1 : List Loc), px_Rep B cA D h2 H1 → va_S (fun q => B ≤ q) s.heap H1 locs1 → W p l e R s m args below meth c H1 locs1 (cells + mc) (slots + ms) Q (F0 m (pc + 3) ml ((r.map (px_phi B b adK adV fm)).toList ++ rest))) : W p l e R s m args below meth c H locs cells slots Q (F0 m pc ml st0) := by
  intro T hT X
  obtain ⟨v, st₀, t, T', L', h0, X', hL, e1, e2, ⟨hv, hp, hz, hk⟩, st⟩ := hr T hT X
  cases hv
  rw [h0] at hz hk
  obtain ⟨t2, a1, b1⟩ := kk T'.heap (locs ++ L') (by rw [e1]; exact hp) ⟨Nat.le_trans hS.1 (by rw [e1]; exact hz), fun q g1 g2 => by rw [e1, hk q (Nat.lt_of_lt_of_le g1 hS.1) g2]; exact hS.2.1 q g1 g2, fun q hq => by
      rcases List.mem_append.mp hq with h | h
      · exact hS.2.2 q h
      · exact hL q h⟩ T' rfl X'
  exact ⟨t2, st t2 a1, b1⟩
theorem px_sz_eq {H : Heap} {locs : List Loc} {cells : Nat} (F : px_Fr k B b L xs adK adV fm D cA p s m args meth c) (hR : px_Rep B cA D h H) (hS : va_S (fun q => B ≤ q) s.heap H locs) (hc : s.heap.size + cells = B + h.1.length) (hz : H.size ≤ s.heap.size + cells) : H.size = B + h.1.length := by
  have h1 : B ≤ H.size := Nat.le_trans F.2.2.2.2.2.2.2.2.1 hS.1
  by_cases h0 : h.1.length = 0
  · omega
  · have hl : h.1.length - 1 < h.1.length := by omega
    have ha : (px_ws B cA h)[h.1.length - 1]? = some (B + (h.1.length - 1), px_E B cA (px_cat h (h.1.length - 1)).1 (px_cat h (h.1.length - 1)).2 (h.2 (h.1.length - 1))) :=
      px_ws_at (by unfold px_cat; rw [List.getD_eq_getElem?_getD, List.getElem?_eq_getElem hl]; rfl)
    have h2 : B + (h.1.length - 1) < H.size := (hR.1 _ _ ha).lt
    omega
theorem px_pre {H : Heap} {locs : List Loc} {as : List Value} (F : px_Fr k B b L xs adK adV fm D cA p s m args meth c) (hR : px_Rep B cA D h H) (hS : va_S (fun q => B ≤ q) s.heap H locs) (hz : H.size = B + h.1.length) : ∀ U : State, U.heap = H → s.WarmedH U.vm → px_Pc B b L xs adK adV fm D cA as h (as.map (px_phi B b adK adV fm)).toArray U := by
  intro U hU hW
  subst hU
  exact ⟨rfl, hR, hz, px_St_moved hW hS.1 hS.2.1 F.2.2.2.2.2.2.2.2.2⟩
theorem px_room_phi {st : List Value} (hf : fm.category = 1) (hr : px_room st = true) : ((st.map (px_phi B b adK adV fm)).map fun v => v.category).sum ≤ 8 := by
  unfold px_room at hr
  rw [List.map_map, show ((fun v : Value => v.category) ∘ px_phi B b adK adV fm) = (fun v => v.category) from funext fun v => px_phi_cat hf v]
  exact of_decide_eq_true hr
theorem px_stk {n : Nat} : st.map (px_phi B b adK adV fm) = (((st.take n).reverse).map (px_phi B b adK adV fm)).reverse ++ (st.drop n).map (px_phi B b adK adV fm) := by
  rw [List.map_reverse, List.reverse_reverse, ← List.map_append, List.take_append_drop]
theorem px_s_call {i vk : Nat} {ins : Instr} {d : Nat} (F : px_Fr k B b L xs adK adV fm D cA p s m args meth c) (hcf : ∀ t as h r h2, cf t as h = some (r, h2) → px_Ct l B b L xs adK adV fm D cA d t as h r h2) (hRf : d + 1 ≤ R.frames) (hRl : 60 * (d + 1) ≤ R.locals)
    (hi : (vk = 3 ∧ ins = .invokestatic i) ∨ (vk = 5 ∧ ins = .invokespecial i) ∨ (vk = 7 ∧ ins = .invokevirtual i)) (hd : decode (px_code k) pc = .ok (ins, 3)) (he : px_call cf k (px_own k) i pc vk ls st h = some (.inl S2)) (hbud : B + S2.2.2.2.1.length ≤ s.heap.size + R.cells ∧ px_sl S2.2.2.2 ≤ sl0 + R.slots) (G : px_G p l e R s m args below meth c Q B b adK adV fm D cA sl0 (px_maxL k) S2) : px_G p l e R s m args below meth c Q B b adK adV fm D cA sl0 (px_maxL k) (pc, ls, st, h) := by
  have hfc := F.2.2.2.2.2.2.2.2.2.2.2.2.2.2.2.2.2.2.2.1
  have CF : CallFix p m c (px_code k) (px_maxL k) s args px_gw (px_cn (px_own k)) := ⟨F.1, F.2.1, F.2.2.1, F.2.2.2.1, F.2.2.2.2.1⟩
  unfold px_call at he
  split at he
  · cases he
  · rename_i kd t n hct
    obtain ⟨pos, hok⟩ := px_ct_ok hct
    unfold px_cok at hok
    simp only at hok
    split at he
    · -- Object's constructor
      rename_i hk0
      subst hk0
      rw [if_pos rfl] at hok
      split at he
      · rename_i a r
        split at he
        · rename_i hq
          obtain ⟨rfl, hrm⟩ := hq
          obtain rfl := px_inl he
          obtain ⟨-, rfl⟩ : True ∧ ins = .invokespecial i := by
            rcases hi with ⟨q, -⟩ | ⟨-, q⟩ | ⟨q, -⟩
            · exact absurd q (by decide)
            · exact ⟨trivial, q⟩
            · exact absurd q (by decide)
          intro H locs cells slots ml hR hS hl hc hs
          refine W.objInit F.1 F.2.1 F.2.2.2.1 (F.2.2.2.2.1 _ (px_gw_at (of_decide_eq_true hok) rfl)) (F.2.2.2.2.1 _ (px_gw_at (i := 25) (w := .instanceMethod objectInit) (by decide +kernel) rfl)) (F.2.2.2.2.1 _ (px_gw_at (i := 26) (w := .code objectInit ⟨#[0xb1]⟩ 1 none) (by decide +kernel) rfl)) rfl (hl.2.1.trans F.2.2.1.symm) rfl hd (by omega) ?_ (G H locs cells slots ml hR hS hl hc hs)
          show 2 * 0 + ((r.map (px_phi B b adK adV fm)).map fun v => v.category).sum + 12 ≤ R.locals
          have := px_room_phi (B := B) (b := b) (adK := adK) (adV := adV) hfc hrm
          omega
        · cases he
      · cases he
    · rename_i hk0
      rw [if_neg hk0] at hok
      split at he
      · -- System.arraycopy
        rename_i hk1
        subst hk1
        rw [if_pos rfl] at hok
        split at he
        · rename_i mm dp a1 sp a0 r
          split at he
          · rename_i k0 n0 k1 n1 ha0 ha1
            split at he
            · rename_i hq
              obtain ⟨rfl, rfl, rfl, q1, q2, q3, q4, q5, hrm⟩ := hq
              obtain rfl := px_inl he
              obtain ⟨-, rfl⟩ : True ∧ ins = .invokestatic i := by
                rcases hi with ⟨-, q⟩ | ⟨q, -⟩ | ⟨q, -⟩
                · exact ⟨trivial, q⟩
                · exact absurd q (by decide)
                · exact absurd q (by decide)
              intro H locs cells slots ml hR hS hl hc hs
              have hw0 := px_ws_at (B := B) (cA := cA) ha0
              have hw1 := px_ws_at (B := B) (cA := cA) ha1
              have np : ∀ z : Int32, 0 ≤ z.toInt → ¬ z < 0 := fun z hz q => by rw [Int32.lt_iff_toInt_lt] at q; simp at q; omega
              have cl : ∀ z : Int32, z.toNatClampNeg = z.toInt.toNat := fun z => rfl
              refine va_copyi F.1 F.2.1 (F.2.2.1.trans hl.2.1.symm) F.2.2.2.1 (F.2.2.2.2.1 _ (px_gw_at (of_decide_eq_true hok) rfl)) (F.2.2.2.2.1 _ (px_gw_at (i := 460) (w := .native arraycopyName) (by decide +kernel) rfl)) (F.2.2.2.2.1 _ (px_gw_at (i := 459) (w := .static arraycopyName) (by decide +kernel) rfl)) (F.2.2.2.2.1 _ (px_gw_at (i := 13) (w := .initialized "java/lang/System") (by decide +kernel) rfl)) F.2.2.2.2.2.2.2.2.2.1 hR.1 hR.2.1 hS a0 a1 0 0 hw0 hw1 rfl rfl rfl (np _ q1) (np _ q2) (np _ q3) (by rw [cl, cl]; omega) (by rw [cl, cl]; omega) (fun _ _ => rfl) (by omega) ?_ hd (fun H1 locs1 h1 h2 h3 => ?_)
              · have := px_room_phi (B := B) (b := b) (adK := adK) (adV := adV) hfc hrm
                have hn : nativeFrameWords "java/lang/System" "arraycopy" 5 = 7 := by decide +kernel
                omega
              · refine G H1 locs1 cells slots ml ?_ h3 hl hc hs
                show px_Rep B cA D (h.1, px_copy h.2 a0 sp.toInt.toNat a1 dp.toInt.toNat mm.toInt.toNat) H1
                unfold px_copy
                refine px_Rep_set hR.2.2 ha1 ?_ h1 h2
                rw [px_E_int]
                congr 4
                funext j
                unfold va_cpy
                show iI (if dp.toInt.toNat ≤ j ∧ j < dp.toInt.toNat + mm.toInt.toNat then _ else _) = if dp.toInt.toNat ≤ j ∧ j < dp.toInt.toNat + mm.toInt.toNat then _ else _
                split <;> rfl
            · cases he
          · cases he
        · cases he
      · rename_i hk1
        rw [if_neg hk1] at hok
        split at he
        · -- Math
          rename_i hk2
          subst hk2
          rw [if_pos rfl] at hok
          have hini := F.2.2.2.2.1 _ (px_gw_at (i := 10) (w := .initialized "java/lang/Math") (by decide +kernel) rfl)
          have bud1 : ∀ (cells slots : Nat), s.heap.size + cells = B + h.1.length → px_sl h = sl0 + slots → B + h.1.length ≤ s.heap.size + R.cells → px_sl h ≤ sl0 + R.slots → cells ≤ R.cells ∧ slots ≤ R.slots := fun cells slots a1 a2 a3 a4 => ⟨by omega, by omega⟩
          split at he
          · rename_i y x r
            split at he
            · rename_i hq
              obtain ⟨rfl, hrm⟩ := hq
              obtain rfl := px_inl he
              obtain ⟨-, rfl⟩ : True ∧ ins = .invokestatic i := by
                rcases hi with ⟨-, q⟩ | ⟨q, -⟩ | ⟨q, -⟩
                · exact ⟨trivial, q⟩
                · exact absurd q (by decide)
                · exact absurd q (by decide)
              intro H locs cells slots ml hR hS hl hc hs
              have hbb := bud1 cells slots hc hs hbud.1 hbud.2
              have := px_room_phi (B := B) (b := b) (adK := adK) (adV := adV) hfc hrm
              exact va_mmax F.1 F.2.1 (F.2.2.1.trans hl.2.1.symm) F.2.2.2.1 (F.2.2.2.2.1 _ (px_gw_at (of_decide_eq_true hok) rfl)) (F.2.2.2.2.1 _ (px_gw_at (i := 301) (w := .static Lib.Math.max.name) (by decide +kernel) rfl)) hini (F.2.2.2.2.1 _ (px_gw_at (i := 302) (w := .code Lib.Math.max.name Lib.Math.max.code 2 (some .int)) (by decide +kernel) rfl)) (by omega) (by omega) hbb.1 hbb.2 hd (G H locs cells slots ml hR hS hl hc hs)
            · cases he
          · rename_i y x r
            split at he
            · rename_i hq
              obtain ⟨rfl, hrm⟩ := hq
              obtain rfl := px_inl he
              obtain ⟨-, rfl⟩ : True ∧ ins = .invokestatic i := by
                rcases hi with ⟨-, q⟩ | ⟨q, -⟩ | ⟨q, -⟩
                · exact ⟨trivial, q⟩
                · exact absurd q (by decide)
                · exact absurd q (by decide)
              intro H locs cells slots ml hR hS hl hc hs
              have hbb := bud1 cells slots hc hs hbud.1 hbud.2
              have := px_room_phi (B := B) (b := b) (adK := adK) (adV := adV) hfc hrm
              exact va_mmin F.1 F.2.1 (F.2.2.1.trans hl.2.1.symm) F.2.2.2.1 (F.2.2.2.2.1 _ (px_gw_at (of_decide_eq_true hok) rfl)) (F.2.2.2.2.1 _ (px_gw_at (i := 497) (w := .static Lib.Math.min.name) (by decide +kernel) rfl)) hini (F.2.2.2.2.1 _ (px_gw_at (i := 498) (w := .code Lib.Math.min.name Lib.Math.min.code 2 (some .int)) (by decide +kernel) rfl)) (by omega) (by omega) hbb.1 hbb.2 hd (G H locs cells slots ml hR hS hl hc hs)
            · cases he
          · rename_i x r
            split at he
            · rename_i hq
              obtain ⟨rfl, hrm⟩ := hq
              obtain rfl := px_inl he
              obtain ⟨-, rfl⟩ : True ∧ ins = .invokestatic i := by
                rcases hi with ⟨-, q⟩ | ⟨q, -⟩ | ⟨q, -⟩
                · exact ⟨trivial, q⟩
                · exact absurd q (by decide)
                · exact absurd q (by decide)
              intro H locs cells slots ml hR hS hl hc hs
              have hbb := bud1 cells slots hc hs hbud.1 hbud.2
              have := px_room_phi (B := B) (b := b) (adK := adK) (adV := adV) hfc hrm
              exact va_mabs F.1 F.2.1 (F.2.2.1.trans hl.2.1.symm) F.2.2.2.1 (F.2.2.2.2.1 _ (px_gw_at (of_decide_eq_true hok) rfl)) (F.2.2.2.2.1 _ (px_gw_at (i := 456) (w := .static Lib.Math.abs.name) (by decide +kernel) rfl)) hini (F.2.2.2.2.1 _ (px_gw_at (i := 457) (w := .code Lib.Math.abs.name Lib.Math.abs.code 1 (some .int)) (by decide +kernel) rfl)) (by omega) (by omega) hbb.1 hbb.2 hd (G H locs cells slots ml hR hS hl hc hs)
            · cases he
          · cases he
        · rename_i hk2
          rw [if_neg hk2] at hok
          simp only [Bool.and_eq_true, decide_eq_true_eq] at hok
          obtain ⟨⟨⟨⟨⟨⟨t1, t2⟩, t3⟩, t4⟩, t5⟩, t6⟩, t7⟩ := hok
          obtain ⟨m1, m2, m3, m4, m5, m6, m7, m8, m9⟩ := px_meth_ok t1 t2
          have hwsin : ∀ w ∈ (Cond.code (px_y t) (px_code t) (px_maxL t) (px_ret t) :: px_gw), w ∈ px_gw := fun w hw => by
            rcases List.mem_cons.mp hw with rfl | hw
            · exact m1
            · exact hw
          have hroomL : 8 + (px_maxL t + 11) + 60 * d ≤ R.locals := by omega
          split at he
          · -- static
            rename_i hk34
            split at he
            · rename_i hq
              obtain ⟨rfl, hn, hrm⟩ := hq
              obtain ⟨-, rfl⟩ : True ∧ ins = .invokestatic i := by
                rcases hi with ⟨-, q⟩ | ⟨q, -⟩ | ⟨q, -⟩
                · exact ⟨trivial, q⟩
                · exact absurd q (by decide)
                · exact absurd q (by decide)
              split at he
              · rename_i r h2 hcall
                obtain rfl := px_inl he
                obtain ⟨c1, c2, c3⟩ := hcf _ _ _ _ _ hcall
                have hM := c3 t1 t2
                rw [if_pos hk34] at t5
                have hst := m7 t5
                intro H locs cells slots ml hR hS hl hc hs
                refine px_sz (fun hz => ?_)
                have hc : s.heap.size + cells = B + h.1.length := hc
                have hs : px_sl h = sl0 + slots := hs
                have hb1 : B + h2.1.length ≤ s.heap.size + R.cells := hbud.1
                have hb2 : px_sl h2 ≤ sl0 + R.slots := hbud.2
                have hzz := px_sz_eq F hR hS hc hz
                have hpre : PreS s H (px_Pc B b L xs adK adV fm D cA (st.take n).reverse h) ((st.take n).reverse.map (px_phi B b adK adV fm)) := ⟨px_blind, px_pre F hR hS hzz⟩
                have hbd : cells + (h2.1.length - h.1.length) ≤ R.cells ∧ slots + (px_sl h2 - px_sl h) ≤ R.slots := ⟨by omega, by omega⟩
                have hlen : ((st.take n).reverse.map (px_phi B b adK adV fm)).length = n := by simp; omega
                have hgo : ∀ (H1 : Heap) (locs1 : List Loc), px_Rep B cA D h2 H1 → va_S (fun q => B ≤ q) s.heap H1 locs1 → W p l e R s m args below meth c H1 locs1 (cells + (h2.1.length - h.1.length)) (slots + (px_sl h2 - px_sl h)) Q (F0 m (pc + 3) ml ((r.map (px_phi B b adK adV fm)).toList ++ (st.drop n).map (px_phi B b adK adV fm))) := by
                  intro H1 locs1 g1 g2
                  have := G H1 locs1 (cells + (h2.1.length - h.1.length)) (slots + (px_sl h2 - px_sl h)) ml g1 g2 hl (by show s.heap.size + _ = B + h2.1.length; omega) (by show px_sl h2 = _; omega)
                  cases r <;> exact this
                by_cases hk3 : kd = 4
                · subst hk3
                  rw [if_pos (Or.inl rfl)] at t4
                  have hnw : va_Nw (.methodLinkNest (px_cn (px_own k)) i (px_y t) "SermonPanes") s := F.2.2.2.2.2.2.2.2.2.2.1 _ (List.mem_filter.mpr ⟨List.mem_of_getElem? (of_decide_eq_true t4), rfl⟩)
                  exact px_after (va_runSN (rm := px_rm d h h2) (rest := (st.drop n).map (px_phi B b adK adV fm)) CF hM ⟨va_cnB n F.2.2.2.2.1 (px_gw_all hwsin) rfl rfl rfl hnw (F.2.2.2.2.1 _ m2) ⟨m6.1, m6.2, t3⟩ ⟨hRf, hroomL⟩, F.2.2.2.2.1 _ hst, trivial⟩ hpre rfl hlen hl.2.1 px_stk (lv_room (px_room_phi hfc hrm)) hd hbd) hS hgo
                · have hk3 : kd = 3 := hk34.resolve_right hk3
                  subst hk3
                  rw [if_neg (by decide)] at t4
                  refine px_after (va_runS (rm := px_rm d h h2) (rest := (st.drop n).map (px_phi B b adK adV fm)) CF hM (va_cwS n F.2.2.2.2.1 (px_gw_all (fun w hw => ?_)) rfl rfl rfl ⟨m6.1, m6.2, t3⟩ ⟨hRf, hroomL⟩) hpre rfl hlen hl.2.1 px_stk (lv_room (px_room_phi hfc hrm)) hd hbd) hS hgo
                  unfold va_wsS at hw
                  rcases List.mem_append.mp hw with hw | hw
                  · simp only [List.mem_cons, List.not_mem_nil, or_false] at hw
                    rcases hw with rfl | rfl | rfl
                    · exact px_gw_at (of_decide_eq_true t4) rfl
                    · exact hst
                    · exact m2
                  · exact hwsin w hw
              · cases he
            · cases he
          · rename_i hk34
            rw [if_neg hk34] at t5
            have hin : Cond.instanceMethod (px_y t) ∈ px_gw := m8 (by simpa using t5)
            split at he
            · -- constructors
              rename_i hk56
              rw [if_pos hk56] at t6
              simp only [Bool.and_eq_true, decide_eq_true_eq] at t6
              split at he
              · rename_i bb r0 hst
                split at he
                · rename_i hq
                  obtain ⟨rfl, hn, hrm⟩ := hq
                  obtain ⟨-, rfl⟩ : True ∧ ins = .invokespecial i := by
                    rcases hi with ⟨q, -⟩ | ⟨-, q⟩ | ⟨q, -⟩
                    · exact absurd q (by decide)
                    · exact ⟨trivial, q⟩
                    · exact absurd q (by decide)
                  split at he
                  · rename_i r h2 hcall
                    obtain rfl := px_inl he
                    obtain ⟨c1, c2, c3⟩ := hcf _ _ _ _ _ hcall
                    have hM := c3 t1 t2
                    intro H locs cells slots ml hR hS hl hc hs
                    refine px_sz (fun hz => ?_)
                    have hc : s.heap.size + cells = B + h.1.length := hc
                    have hs : px_sl h = sl0 + slots := hs
                    have hb1 : B + h2.1.length ≤ s.heap.size + R.cells := hbud.1
                    have hb2 : px_sl h2 ≤ sl0 + R.slots := hbud.2
                    have hzz := px_sz_eq F hR hS hc hz
                    have hpre : PreS s H (px_Pc B b L xs adK adV fm D cA (.ref bb :: (st.take n).reverse) h) (.ref (B + bb) :: (st.take n).reverse.map (px_phi B b adK adV fm)) := ⟨px_blind, px_pre F hR hS hzz⟩
                    have hbd : cells + (h2.1.length - h.1.length) ≤ R.cells ∧ slots + (px_sl h2 - px_sl h) ≤ R.slots := ⟨by omega, by omega⟩
                    have hlen : ((st.take n).reverse.map (px_phi B b adK adV fm)).length = n := by simp; omega
                    have hstk : st.map (px_phi B b adK adV fm) = ((st.take n).reverse.map (px_phi B b adK adV fm)).reverse ++ .ref (B + bb) :: r0.map (px_phi B b adK adV fm) := by
                      rw [px_stk (n := n), hst]; rfl
                    have hgo : ∀ (H1 : Heap) (locs1 : List Loc), px_Rep B cA D h2 H1 → va_S (fun q => B ≤ q) s.heap H1 locs1 → W p l e R s m args below meth c H1 locs1 (cells + (h2.1.length - h.1.length)) (slots + (px_sl h2 - px_sl h)) Q (F0 m (pc + 3) ml ((r.map (px_phi B b adK adV fm)).toList ++ r0.map (px_phi B b adK adV fm))) := by
                      intro H1 locs1 g1 g2
                      have := G H1 locs1 (cells + (h2.1.length - h.1.length)) (slots + (px_sl h2 - px_sl h)) ml g1 g2 hl (by show s.heap.size + _ = B + h2.1.length; omega) (by show px_sl h2 = _; omega)
                      cases r <;> exact this
                    have hwsq : (Cond.code (px_y t) (px_code t) (px_maxL t) (px_ret t) :: px_gw) = Cond.code (px_y t) (px_code t) (px_maxL t) none :: px_gw := by rw [t6.2]
                    by_cases hk6 : kd = 6
                    · subst hk6
                      rw [if_pos (Or.inr rfl)] at t4
                      have hnw : va_Nw (.methodLinkNest (px_cn (px_own k)) i (px_y t) "SermonPanes") s := F.2.2.2.2.2.2.2.2.2.2.1 _ (List.mem_filter.mpr ⟨List.mem_of_getElem? (of_decide_eq_true t4), rfl⟩)
                      exact px_after (va_runIN (rm := px_rm d h h2) (rest := r0.map (px_phi B b adK adV fm)) CF hM ⟨va_cnB n F.2.2.2.2.1 (px_gw_all hwsin) hwsq rfl rfl hnw (F.2.2.2.2.1 _ m2) ⟨m6.1, m6.2, t3⟩ ⟨hRf, hroomL⟩, t6.1, F.2.2.2.2.1 _ hin⟩ hpre rfl hlen hl.2.1 hstk (lv_room (px_room_phi hfc hrm)) hd hbd) hS hgo
                    · have hk5 : kd = 5 := hk56.resolve_right hk6
                      subst hk5
                      rw [if_neg (by decide)] at t4
                      exact px_after (va_runI (rm := px_rm d h h2) (rest := r0.map (px_phi B b adK adV fm)) CF hM (cwI n F.2.2.2.2.1 (px_gw_all hwsin) hwsq rfl rfl (F.2.2.2.2.1 _ m2) (F.2.2.2.2.1 _ (px_gw_at (of_decide_eq_true t4) rfl)) (F.2.2.2.2.1 _ hin) t6.1 ⟨m6.1, m6.2, t3⟩ ⟨hRf, hroomL⟩) hpre rfl hlen hl.2.1 hstk (lv_room (px_room_phi hfc hrm)) hd hbd) hS hgo
                  · cases he
                · cases he
              · cases he
            · rename_i hk56
              split at he
              · -- virtual
                rename_i hk7
                subst hk7
                rw [if_pos rfl] at t7
                rw [if_neg (by decide)] at t4
                have hsel := m9 t7
                have hV : ∀ (vb : Value) (ab : Nat) (r0 : List Value), st.drop n = vb :: r0 → px_phi B b adK adV fm vb = .ref ab → (∀ (H : Heap) (locs : List Loc), px_Rep B cA D h H → va_S (fun q => B ≤ q) s.heap H locs → ∃ cell : Cell, H[ab]? = some cell ∧ cell.vm.isStatics = false ∧ s.vm.findClass (px_y t).cls = some cell.cls) → vk = 7 → n ≤ st.length → px_room r0 = true →
                    (match cf t (vb :: (st.take n).reverse) h with
                      | some (v, h2) => px_n (pc + 3) ls (v.toList ++ r0) h2
                      | none => none) = some (.inl S2) → px_G p l e R s m args below meth c Q B b adK adV fm D cA sl0 (px_maxL k) (pc, ls, st, h) := by
                  clear he
                  intro vb ab r0 hst hvb hrecv hvk hn hrm he
                  subst hvk
                  obtain ⟨-, rfl⟩ : True ∧ ins = .invokevirtual i := by
                    rcases hi with ⟨q, -⟩ | ⟨q, -⟩ | ⟨-, q⟩
                    · exact absurd q (by decide)
                    · exact absurd q (by decide)
                    · exact ⟨trivial, q⟩
                  split at he
                  · rename_i r h2 hcall
                    obtain rfl := px_inl he
                    obtain ⟨c1, c2, c3⟩ := hcf _ _ _ _ _ hcall
                    have hM := c3 t1 t2
                    intro H locs cells slots ml hR hS hl hc hs
                    refine px_sz (fun hz => ?_)
                    have hc : s.heap.size + cells = B + h.1.length := hc
                    have hs : px_sl h = sl0 + slots := hs
                    have hb1 : B + h2.1.length ≤ s.heap.size + R.cells := hbud.1
                    have hb2 : px_sl h2 ≤ sl0 + R.slots := hbud.2
                    have hzz := px_sz_eq F hR hS hc hz
                    have hpp := px_pre (as := vb :: (st.take n).reverse) F hR hS hzz
                    rw [List.map_cons, hvb] at hpp
                    have hpre : PreV s H (px_y t).cls ab (px_Pc B b L xs adK adV fm D cA (vb :: (st.take n).reverse) h) ((st.take n).reverse.map (px_phi B b adK adV fm)) := ⟨px_blind, hrecv H locs hR hS, hpp⟩
                    have hbd : cells + (h2.1.length - h.1.length) ≤ R.cells ∧ slots + (px_sl h2 - px_sl h) ≤ R.slots := ⟨by omega, by omega⟩
                    have hlen : ((st.take n).reverse.map (px_phi B b adK adV fm)).length = n := by simp; omega
                    have hstk : st.map (px_phi B b adK adV fm) = ((st.take n).reverse.map (px_phi B b adK adV fm)).reverse ++ .ref ab :: r0.map (px_phi B b adK adV fm) := by
                      rw [px_stk (n := n), hst, List.map_cons, hvb]
                    have hgo : ∀ (H1 : Heap) (locs1 : List Loc), px_Rep B cA D h2 H1 → va_S (fun q => B ≤ q) s.heap H1 locs1 → W p l e R s m args below meth c H1 locs1 (cells + (h2.1.length - h.1.length)) (slots + (px_sl h2 - px_sl h)) Q (F0 m (pc + 3) ml ((r.map (px_phi B b adK adV fm)).toList ++ r0.map (px_phi B b adK adV fm))) := by
                      intro H1 locs1 g1 g2
                      have := G H1 locs1 (cells + (h2.1.length - h.1.length)) (slots + (px_sl h2 - px_sl h)) ml g1 g2 hl (by show s.heap.size + _ = B + h2.1.length; omega) (by show px_sl h2 = _; omega)
                      cases r <;> exact this
                    refine px_after (va_runV (rm := px_rm d h h2) (rest := r0.map (px_phi B b adK adV fm)) CF hM (cwV n F.2.2.2.2.1 (px_gw_all (fun w hw => ?_)) rfl rfl rfl ⟨rfl, m6.1, m6.2, t3⟩ ⟨hRf, hroomL⟩) hpre rfl hlen hl.2.1 hstk (lv_room (px_room_phi hfc hrm)) hd hbd) hS hgo
                    unfold wsV at hw
                    rcases List.mem_append.mp hw with hw | hw
                    · simp only [List.mem_cons, List.not_mem_nil, or_false] at hw
                      rcases hw with rfl | rfl | rfl | rfl
                      · exact px_gw_at (of_decide_eq_true t4) rfl
                      · exact hin
                      · exact hsel
                      · exact m2
                    · exact hwsin w hw
                  · cases he
                split at he
                · rename_i bb r0 hst
                  split at he
                  · rename_i kb nb hkb
                    split at he
                    · rename_i hq
                      obtain ⟨hvk, q1, q2, hn, hrm⟩ := hq
                      refine hV (.ref bb) (B + bb) r0 hst rfl (fun H locs hR hS => ?_) hvk hn hrm he
                      have hw := px_ws_at (B := B) (cA := cA) hkb
                      rw [px_E_obj q2] at hw
                      have hrc := va_recv F.2.2.2.2.2.2.2.2.2.1 hR.1 (px_C_at q2) hw
                      rw [(px_cl_at q2).2.1, q1, m5] at hrc
                      exact hrc
                    · cases he
                  · cases he
                · rename_i bb r0 hst
                  split at he
                  · rename_i hq
                    obtain ⟨hvk, q1, q2, q3, hn, hrm⟩ := hq
                    obtain ⟨tt, rfl⟩ : ∃ tt, bb = tt + 1 := ⟨bb - 1, by omega⟩
                    have e1 : px_phi B b adK adV fm (.retAddr (tt + 1)) = .ref (adK tt) := by
                      show px_ra b adK adV fm (tt + 1) = _
                      unfold px_ra
                      rw [if_neg (by omega), if_pos (by omega)]
                      rfl
                    refine hV (.retAddr (tt + 1)) (adK tt) r0 hst e1 (fun H locs hR hS => ?_) hvk hn hrm he
                    have hrc := vk_recv F.2.2.2.2.2.2.2.2.2.2.2.2.1 (i := tt) (by omega) hS
                    rw [← m5, q1]
                    exact hrc
                  · cases he
                · cases he
              · cases he
end PXD

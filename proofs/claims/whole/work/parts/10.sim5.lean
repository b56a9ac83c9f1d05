/-! the pure machine as a whole -/
def px_le (h h2 : px_H) : Prop := h.1.length ≤ h2.1.length ∧ px_sl h ≤ px_sl h2
theorem px_le_rfl {h : px_H} : px_le h h := ⟨Nat.le_refl _, Nat.le_refl _⟩
theorem px_le_tr {a b c : px_H} (h1 : px_le a b) (h2 : px_le b c) : px_le a c := ⟨Nat.le_trans h1.1 h2.1, Nat.le_trans h1.2 h2.2⟩
theorem px_le_M {h : px_H} {M : Nat → Nat → Int} : px_le h (h.1, M) := ⟨Nat.le_refl _, Nat.le_refl _⟩
def px_il (h : px_H) (o : px_S ⊕ (Option Value × px_H)) : Prop := ∃ S, o = .inl S ∧ px_le h S.2.2.2
def px_isR : Instr → Bool
  | .ireturn => true
  | .lreturn => true
  | .areturn => true
  | .return_ => true
  | _ => false
section PXE
variable {h : px_H} {o : px_S ⊕ (Option Value × px_H)} {pc : Nat} {ls st : List Value}
theorem px_n_le {h2 : px_H} (hle : px_le h h2) (he : px_n pc ls st h2 = some o) : px_il h o := by
  unfold px_n at he
  cases he
  exact ⟨_, rfl, hle⟩
theorem px_br_le {c : Prop} [Decidable c] {len : Nat} {off : Int} (he : px_br c pc off len ls st h = some o) : px_il h o := by
  unfold px_br at he
  split at he
  · split at he <;> exact px_n_le px_le_rfl he
  · cases he
theorem px_ldi_le {i : Nat} (he : px_ldi ls i pc st h = some o) : px_il h o := by
  unfold px_ldi at he
  split at he
  · exact px_n_le px_le_rfl he
  · cases he
theorem px_ldl_le {i : Nat} (he : px_ldl ls i pc st h = some o) : px_il h o := by
  unfold px_ldl at he
  split at he
  · exact px_n_le px_le_rfl he
  · cases he
theorem px_lda_le {i : Nat} (he : px_lda ls i pc st h = some o) : px_il h o := by
  unfold px_lda at he
  split at he
  · exact px_n_le px_le_rfl he
  · exact px_n_le px_le_rfl he
  · split at he
    · cases he
    · exact px_n_le px_le_rfl he
  · cases he
theorem px_sti_le {i : Nat} (he : px_sti ls i pc st h = some o) : px_il h o := by
  unfold px_sti at he
  split at he
  · split at he
    · exact px_n_le px_le_rfl he
    · cases he
  · cases he
theorem px_stl_le {i : Nat} (he : px_stl ls i pc st h = some o) : px_il h o := by
  unfold px_stl at he
  split at he
  · split at he
    · exact px_n_le px_le_rfl he
    · cases he
  · cases he
theorem px_sta_le {i : Nat} (he : px_sta ls i pc st h = some o) : px_il h o := by
  unfold px_sta at he
  split at he
  · split at he
    · exact px_n_le px_le_rfl he
    · cases he
  · split at he
    · exact px_n_le px_le_rfl he
    · cases he
  · cases he
theorem px_ii_le {f : Int32 → Int32 → Int32} (he : px_ii f pc ls st h = some o) : px_il h o := by
  unfold px_ii at he
  split at he
  · exact px_n_le px_le_rfl he
  · cases he
theorem px_ll_le {f : Int64 → Int64 → Int64} (he : px_ll f pc ls st h = some o) : px_il h o := by
  unfold px_ll at he
  split at he
  · exact px_n_le px_le_rfl he
  · cases he
theorem px_ald_le {kd : Nat} (he : px_ald kd pc ls st h = some o) : px_il h o := by
  unfold px_ald at he
  split at he
  · split at he
    · split at he
      · exact px_n_le px_le_rfl he
      · cases he
    · cases he
  · cases he
theorem px_ast_le {kd : Nat} (he : px_ast kd pc ls st h = some o) : px_il h o := by
  unfold px_ast at he
  split at he
  · split at he
    · split at he
      · split at he
        · exact px_n_le px_le_M he
        · cases he
      · cases he
    · cases he
  · cases he
theorem px_newa_le {kd len : Nat} {d : Int} (he : px_newa kd pc len d ls st h = some o) : px_il h o := by
  unfold px_newa at he
  split at he
  · split at he
    · exact px_n_le (h := h) ⟨by simp, by rw [px_sl_push]; omega⟩ he
    · cases he
  · cases he
theorem px_getf_le {oo i : Nat} (he : px_getf oo i pc ls st h = some o) : px_il h o := by
  unfold px_getf at he
  split at he
  · split at he
    · split at he
      · exact px_n_le px_le_rfl he
      · cases he
    · cases he
  · split at he
    · split at he
      · exact px_n_le px_le_rfl he
      · split at he
        · exact px_n_le px_le_rfl he
        · cases he
    · cases he
  · cases he
theorem px_putf_le {k oo i : Nat} (he : px_putf k oo i pc ls st h = some o) : px_il h o := by
  unfold px_putf at he
  split at he
  · split at he
    · split at he
      · split at he
        · exact px_n_le px_le_M he
        · cases he
      · cases he
    · cases he
  · cases he
theorem px_call_le {cf : Nat → List Value → px_H → Option (Option Value × px_H)} (hcf : ∀ t as h r h2, cf t as h = some (r, h2) → px_le h h2) {k oo i vk : Nat} (he : px_call cf k oo i pc vk ls st h = some o) : px_il h o := by
  unfold px_call at he
  repeat' first
    | exact px_n_le px_le_rfl he
    | exact px_n_le (hcf _ _ _ _ _ (by assumption)) he
    | exact px_n_le px_le_M he
    | (cases he; done)
    | split at he
theorem px_exec_le {xs : Nat → Int} {L : Nat} {cf : Nat → List Value → px_H → Option (Option Value × px_H)} (hcf : ∀ t as h r h2, cf t as h = some (r, h2) → px_le h h2) {k len : Nat} {ins : Instr} (he : px_exec xs L cf k ins len pc ls st h = some o) : px_il h o ∨ (px_isR ins = true ∧ ∃ r, o = .inr (r, h)) := by
  by_cases hr : px_isR ins = true
  · refine Or.inr ⟨hr, ?_⟩
    cases ins <;> simp only [px_isR] at hr <;> first | (cases hr; done) | skip
    all_goals (simp only [px_exec] at he; repeat' first | (cases he; done) | (cases he; exact ⟨_, rfl⟩) | split at he)
  · refine Or.inl ?_
    cases ins <;> simp only [px_isR] at hr <;> first | (exact absurd rfl hr) | (exact absurd trivial hr) | skip
    all_goals simp only [px_exec] at he
    all_goals first | (cases he; done) | skip
    all_goals repeat' first
      | exact px_n_le px_le_rfl he
      | exact px_br_le he
      | exact px_ldi_le he
      | exact px_ldl_le he
      | exact px_lda_le he
      | exact px_sti_le he
      | exact px_stl_le he
      | exact px_sta_le he
      | exact px_ii_le he
      | exact px_ll_le he
      | exact px_ald_le he
      | exact px_ast_le he
      | exact px_newa_le he
      | exact px_getf_le he
      | exact px_putf_le he
      | exact px_call_le hcf he
      | exact px_n_le (h := h) ⟨by simp, by rw [px_sl_push]; omega⟩ he
      | (cases he; done)
      | split at he
theorem px_run_le {xs : Nat → Int} {L : Nat} {cf : Nat → List Value → px_H → Option (Option Value × px_H)} (hcf : ∀ t as h r h2, cf t as h = some (r, h2) → px_le h h2) {k : Nat} {r : Option Value} {h2 : px_H} : ∀ (n : Nat) (S : px_S), px_run xs L cf k n S = some (r, h2) → px_le S.2.2.2 h2 := by
  intro n
  induction n with
  | zero => intro S he; cases he
  | succ n ih =>
    intro S he
    simp only [px_run] at he
    split at he
    · cases he
    · rename_i S2 hs
      unfold px_step at hs
      split at hs
      · rcases px_exec_le hcf hs with ⟨S3, h3, h4⟩ | ⟨-, r, h3⟩
        · cases h3
          exact px_le_tr h4 (ih _ he)
        · cases h3
      · cases hs
    · rename_i r2 hs
      unfold px_step at hs
      split at hs
      · rcases px_exec_le hcf hs with ⟨S3, h3, h4⟩ | ⟨-, r, h3⟩
        · cases h3
        · cases h3
          cases he
          exact px_le_rfl
      · cases hs
end PXE
section PXF
variable {p : Program} {l : Launch} {e : Env} {R : Room} {s : State} {m : MethodId} {args : Array Value} {below : List Frame} {meth : Method} {c : Code} {Q : State → Prop}
variable {B b L : Nat} {xs : Nat → Int} {adK adV : Nat → Nat} {fm : Value} {D : va_G} {cA : Nat → ClassId} {sl0 : Nat}
variable {cf : Nat → List Value → px_H → Option (Option Value × px_H)} {k len pc : Nat} {ls st : List Value} {h : px_H} {S2 : px_S}
theorem px_s_all {d : Nat} {ins : Instr} (F : px_Fr k B b L xs adK adV fm D cA p s m args meth c) (hcf : ∀ t as h r h2, cf t as h = some (r, h2) → px_Ct l B b L xs adK adV fm D cA d t as h r h2) (hRf : d + 1 ≤ R.frames) (hRl : 60 * (d + 1) ≤ R.locals) (hd : decode (px_code k) pc = .ok (ins, len)) (he : px_exec xs L cf k ins len pc ls st h = some (.inl S2)) (hbud : B + S2.2.2.2.1.length ≤ s.heap.size + R.cells ∧ px_sl S2.2.2.2 ≤ sl0 + R.slots) (G : px_G p l e R s m args below meth c Q B b adK adV fm D cA sl0 (px_maxL k) S2) : px_G p l e R s m args below meth c Q B b adK adV fm D cA sl0 (px_maxL k) (pc, ls, st, h) := by
  cases ins
  case iconst => exact px_s_iconst F hd he G
  case bipush => exact px_s_bipush F hd he G
  case sipush => exact px_s_sipush F hd he G
  case lconst => exact px_s_lconst F hd he G
  case ldc => exact px_s_ldc F hd he G
  case ldc_w => exact px_s_ldc_w F hd he G
  case ldc2_w => exact px_s_ldc2_w F hd he G
  case aconst_null => exact px_s_aconst_null F hd he G
  case iload => exact px_s_iload F hd he G
  case iload_n => exact px_s_iload_n F hd he G
  case lload => exact px_s_lload F hd he G
  case lload_n => exact px_s_lload_n F hd he G
  case aload => exact px_s_aload F hd he G
  case aload_n => exact px_s_aload_n F hd he G
  case istore => exact px_s_istore F hd he G
  case istore_n => exact px_s_istore_n F hd he G
  case lstore => exact px_s_lstore F hd he G
  case lstore_n => exact px_s_lstore_n F hd he G
  case astore => exact px_s_astore F hd he G
  case astore_n => exact px_s_astore_n F hd he G
  case iinc => exact px_s_iinc F hd he G
  case iadd => exact px_s_iadd F hd he G
  case isub => exact px_s_isub F hd he G
  case imul => exact px_s_imul F hd he G
  case iand => exact px_s_iand F hd he G
  case ior => exact px_s_ior F hd he G
  case ixor => exact px_s_ixor F hd he G
  case ishl => exact px_s_ishl F hd he G
  case ishr => exact px_s_ishr F hd he G
  case iushr => exact px_s_iushr F hd he G
  case ladd => exact px_s_ladd F hd he G
  case lsub => exact px_s_lsub F hd he G
  case lmul => exact px_s_lmul F hd he G
  case idiv => exact px_s_idiv F hd he G
  case irem => exact px_s_irem F hd he G
  case ldiv => exact px_s_ldiv F hd he G
  case lrem => exact px_s_lrem F hd he G
  case ineg => exact px_s_ineg F hd he G
  case i2l => exact px_s_i2l F hd he G
  case l2i => exact px_s_l2i F hd he G
  case i2c => exact px_s_i2c F hd he G
  case lcmp => exact px_s_lcmp F hd he G
  case dup => exact px_s_dup F hd he G
  case pop => exact px_s_pop F hd he G
  case dup2 => exact px_s_dup2 F hd he G
  case goto => exact px_s_goto F hd he G
  case ifnonnull => exact px_s_ifnonnull F hd he G
  case tableswitch => exact px_s_tableswitch F hd he G
  case getfield => exact px_s_getfield F hd he G
  case putfield => exact px_s_putfield F hd he G
  case getstatic => exact px_s_getstatic F hd he G
  case iaload => exact px_s_iaload F hd he G
  case laload => exact px_s_laload F hd he G
  case baload => exact px_s_baload F hd he G
  case aaload => exact px_s_aaload F hd he G
  case iastore => exact px_s_iastore F hd he G
  case bastore => exact px_s_bastore F hd he G
  case lastore => exact px_s_lastore F hd he G
  case aastore => exact px_s_aastore F hd he G
  case arraylength => exact px_s_arraylength F hd he G
  case newarray => exact px_s_newarray F hd he hbud G
  case anewarray => exact px_s_anewarray F hd he hbud G
  case new => exact px_s_new F hd he hbud G
  case ifCond cn off => cases cn
                        · exact px_s_if_eq F hd he G
                        · exact px_s_if_ne F hd he G
                        · exact px_s_if_lt F hd he G
                        · exact px_s_if_ge F hd he G
                        · exact px_s_if_gt F hd he G
                        · exact px_s_if_le F hd he G
  case if_icmp cn off => cases cn
                         · exact px_s_icmp_eq F hd he G
                         · exact px_s_icmp_ne F hd he G
                         · exact px_s_icmp_lt F hd he G
                         · exact px_s_icmp_ge F hd he G
                         · exact px_s_icmp_gt F hd he G
                         · exact px_s_icmp_le F hd he G
  case invokestatic i =>
    simp only [px_exec] at he
    split at he
    · rename_i hlen
      subst hlen
      exact px_s_call F hcf hRf hRl (Or.inl ⟨rfl, rfl⟩) hd he hbud G
    · cases he
  case invokespecial i =>
    simp only [px_exec] at he
    split at he
    · rename_i hlen
      subst hlen
      exact px_s_call F hcf hRf hRl (Or.inr (Or.inl ⟨rfl, rfl⟩)) hd he hbud G
    · cases he
  case invokevirtual i =>
    simp only [px_exec] at he
    split at he
    · rename_i hlen
      subst hlen
      exact px_s_call F hcf hRf hRl (Or.inr (Or.inr ⟨rfl, rfl⟩)) hd he hbud G
    · cases he
  all_goals (simp only [px_exec] at he; repeat' first | (cases he; done) | split at he)
theorem px_sim_run {d : Nat} (F : px_Fr k B b L xs adK adV fm D cA p s m args meth c) (hcf : ∀ t as h r h2, cf t as h = some (r, h2) → px_Ct l B b L xs adK adV fm D cA d t as h r h2) (hRf : d + 1 ≤ R.frames) (hRl : 60 * (d + 1) ≤ R.locals) {rr : Option Value} {hh : px_H} (hbud : B + hh.1.length ≤ s.heap.size + R.cells ∧ px_sl hh ≤ sl0 + R.slots)
    (hfin : ∀ (pc : Nat) (ls st : List Value) (h : px_H) (ins : Instr) (len : Nat), decode (px_code k) pc = .ok (ins, len) → px_exec xs L cf k ins len pc ls st h = some (.inr (rr, hh)) → px_G p l e R s m args below meth c Q B b adK adV fm D cA sl0 (px_maxL k) (pc, ls, st, h)) :
    ∀ (n : Nat) (S : px_S), px_run xs L cf k n S = some (rr, hh) → px_G p l e R s m args below meth c Q B b adK adV fm D cA sl0 (px_maxL k) S := by
  have hle : ∀ t as h r h2, cf t as h = some (r, h2) → px_le h h2 := fun t as h r h2 he => ⟨(hcf t as h r h2 he).1, (hcf t as h r h2 he).2.1⟩
  intro n
  induction n with
  | zero => intro S he; cases he
  | succ n ih =>
    intro S he
    obtain ⟨pc, ls, st, h⟩ := S
    simp only [px_run] at he
    split at he
    · cases he
    · rename_i S2 hs
      unfold px_step at hs
      split at hs
      · rename_i ins len hf
        have hd : decode (px_code k) pc = .ok (ins, len) := by
          unfold px_fetch at hf
          split at hf
          · rename_i x hx
            cases hf
            exact hx
          · cases hf
        have hm := px_run_le hle n S2 he
        exact px_s_all F hcf hRf hRl hd hs ⟨Nat.le_trans (Nat.add_le_add_left hm.1 B) hbud.1, Nat.le_trans hm.2 hbud.2⟩ (ih S2 he)
      · cases hs
    · rename_i r2 hs
      unfold px_step at hs
      split at hs
      · rename_i ins len hf
        have hd : decode (px_code k) pc = .ok (ins, len) := by
          unfold px_fetch at hf
          split at hf
          · rename_i x hx
            cases hf
            exact hx
          · cases hf
        cases he
        exact hfin pc ls st h ins len hd hs
      · cases hs
/-- a method's end -/
theorem px_fin_met (hle : ∀ t as h r h2, cf t as h = some (r, h2) → px_le h h2) {ins : Instr} {r : Option Value} {h2 hs0 : px_H} (F : px_Fr k B b L xs adK adV fm D cA p s m args meth c) (h0 : s.heap.size = B + hs0.1.length) (hd : decode (px_code k) pc = .ok (ins, len)) (he : px_exec xs L cf k ins len pc ls st h = some (.inr (r, h2))) :
    px_G p l e R s m args below meth c (MQ below (px_Qc B b adK adV fm D cA r h2) args s (h2.1.length - hs0.1.length) (px_sl h2 - px_sl hs0) (fun q => B ≤ q)) B b adK adV fm D cA (px_sl hs0) (px_maxL k) (pc, ls, st, h) := by
  have hr := F.2.2.2.2.2.2.1
  have hlocks := F.2.2.2.2.2.2.2.1
  have key : ∀ (H : Heap) (locs : List Loc) (v : Option Value), px_Rep B cA D h H → va_S (fun q => B ≤ q) s.heap H locs → ∀ t : State, t.heap = H → s.WarmedH t.vm → px_Qc B b adK adV fm D cA v h args s (.returned (v.map (px_phi B b adK adV fm))) t := by
    intro H locs v hR hS t ht hW
    subst ht
    exact ⟨rfl, hR, hS.1, hS.2.1⟩
  cases ins
  case ireturn =>
    simp only [px_exec] at he
    split at he
    · rename_i hlen
      subst hlen
      split at he
      · rename_i x
        split at he
        · rename_i hfn
          cases he
          intro H locs cells slots ml hR hS hl hc hs
          have hc : s.heap.size + cells = B + h.1.length := hc
          have hs : px_sl h = px_sl hs0 + slots := hs
          obtain rfl : cells = h.1.length - hs0.1.length := by omega
          obtain rfl : slots = px_sl h - px_sl hs0 := by omega
          cases hrt : px_ret k with
          | none => rw [hrt] at hfn; simp [px_fin] at hfn
          | some ty =>
            rw [hrt] at hfn hr
            have hn : narrow ty (.int x) = .int x := by
              cases ty <;> simp [px_fin] at hfn
              · subst hfn; rfl
              · have h1 : 0 ≤ x.toInt := by have := Int32.le_iff_toInt_le.mp hfn.1; simpa using this
                have h2 : x.toInt < 256 := by have := Int32.lt_iff_toInt_lt.mp hfn.2; simpa using this
                have := px_i2c_v h1 h2
                show Value.int x.toUInt32.toUInt16.toUInt32.toInt32 = .int x
                have hx : x.toUInt32.toUInt16.toUInt32 = x.toUInt32 % 65536 := by rw [← UInt32.toNat_inj]; simp
                rw [hx, this]
              · rfl
              · rcases hfn with rfl | rfl <;> rfl
            exact W.zret F.1 F.2.1 hr hn (key H locs (some (.int x)) hR hS) hS.2.2 hd hlocks
        · cases he
      · cases he
    · cases he
  case lreturn =>
    simp only [px_exec] at he
    split at he
    · rename_i hlen
      subst hlen
      split at he
      · rename_i x
        split at he
        · rename_i hfn
          cases he
          intro H locs cells slots ml hR hS hl hc hs
          have hc : s.heap.size + cells = B + h.1.length := hc
          have hs : px_sl h = px_sl hs0 + slots := hs
          obtain rfl : cells = h.1.length - hs0.1.length := by omega
          obtain rfl : slots = px_sl h - px_sl hs0 := by omega
          cases hrt : px_ret k with
          | none => rw [hrt] at hfn; simp [px_fin] at hfn
          | some ty =>
            rw [hrt] at hfn hr
            cases ty <;> simp [px_fin] at hfn
            exact W.lret F.1 F.2.1 hr (key H locs (some (.long x)) hR hS) hS.2.2 hd hlocks
        · cases he
      · cases he
    · cases he
  case areturn =>
    simp only [px_exec] at he
    split at he
    · rename_i hlen
      subst hlen
      split at he
      · rename_i x
        split at he
        · rename_i hfn
          cases he
          intro H locs cells slots ml hR hS hl hc hs
          have hc : s.heap.size + cells = B + h.1.length := hc
          have hs : px_sl h = px_sl hs0 + slots := hs
          obtain rfl : cells = h.1.length - hs0.1.length := by omega
          obtain rfl : slots = px_sl h - px_sl hs0 := by omega
          cases hrt : px_ret k with
          | none => rw [hrt] at hfn; simp [px_fin] at hfn
          | some ty =>
            rw [hrt] at hfn hr
            cases ty <;> simp [px_fin] at hfn
            exact W.aret F.1 F.2.1 hr (Or.inl ⟨_, rfl⟩) (Or.inr ⟨_, rfl⟩) (key H locs (some (.ref x)) hR hS) hS.2.2 hd hlocks
        · cases he
      · cases he
    · cases he
  case return_ =>
    simp only [px_exec] at he
    split at he
    · rename_i hlen
      subst hlen
      split at he
      · split at he
        · rename_i hfn
          cases he
          intro H locs cells slots ml hR hS hl hc hs
          have hc : s.heap.size + cells = B + h.1.length := hc
          have hs : px_sl h = px_sl hs0 + slots := hs
          obtain rfl : cells = h.1.length - hs0.1.length := by omega
          obtain rfl : slots = px_sl h - px_sl hs0 := by omega
          rw [hfn] at hr
          exact W.vret F.1 F.2.1 hr (key H locs none hR hS) hS.2.2 hd hlocks
        · cases he
      · cases he
    · cases he
  all_goals (rcases px_exec_le hle he with ⟨S3, h3, -⟩ | ⟨h3, -⟩; exact absurd h3 (by simp); exact absurd h3 (by simp [px_isR]))
end PXF

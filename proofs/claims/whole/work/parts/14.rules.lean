/-! the rules of the logic, over integers -/
def rg (x : Int) : Prop := -2147483648 ≤ x ∧ x < 2147483648
def rl (x : Int) : Prop := -9223372036854775808 ≤ x ∧ x < 9223372036854775808
def bI (c : Prop) [Decidable c] : Int := if c then 1 else 0
theorem bI_t {c : Prop} [Decidable c] (h : c) : bI c = 1 := if_pos h
theorem bI_f {c : Prop} [Decidable c] (h : ¬ c) : bI c = 0 := if_neg h
theorem bI_rg (c : Prop) [Decidable c] : 0 ≤ bI c ∧ bI c ≤ 1 := by unfold bI; split <;> omega
theorem iI_toInt {x : Int} (h : rg x) : (iI x).toInt = x := by
  unfold iI; rw [Int32.toInt_ofInt]; unfold rg at h
  exact Int.bmod_eq_of_le (by simp only [Int32.size]; omega) (by simp only [Int32.size]; omega)
theorem lI_toInt {x : Int} (h : rl x) : (lI x).toInt = x := by
  unfold lI; rw [Int64.toInt_ofInt]; unfold rl at h
  exact Int.bmod_eq_of_le (by simp only [Int64.size]; omega) (by simp only [Int64.size]; omega)
theorem iI_add (x y : Int) : iI x + iI y = iI (x + y) := by unfold iI; rw [Int32.ofInt_add]
theorem iI_sub (x y : Int) : iI x - iI y = iI (x - y) := by unfold iI; rw [Int32.ofInt_sub]
theorem iI_mul (x y : Int) : iI x * iI y = iI (x * y) := by unfold iI; rw [Int32.ofInt_mul]
theorem iI_neg (x : Int) : -iI x = iI (-x) := by unfold iI; rw [Int32.ofInt_neg]
theorem lI_add (x y : Int) : lI x + lI y = lI (x + y) := by unfold lI; rw [Int64.ofInt_add]
theorem lI_sub (x y : Int) : lI x - lI y = lI (x - y) := by unfold lI; rw [Int64.ofInt_sub]
theorem lI_mul (x y : Int) : lI x * lI y = lI (x * y) := by unfold lI; rw [Int64.ofInt_mul]
theorem iI_lt {x y : Int} (hx : rg x) (hy : rg y) : iI x < iI y ↔ x < y := by rw [Int32.lt_iff_toInt_lt, iI_toInt hx, iI_toInt hy]
theorem iI_le {x y : Int} (hx : rg x) (hy : rg y) : iI x ≤ iI y ↔ x ≤ y := by rw [Int32.le_iff_toInt_le, iI_toInt hx, iI_toInt hy]
theorem iI_eq {x y : Int} (hx : rg x) (hy : rg y) : iI x = iI y ↔ x = y := by rw [← Int32.toInt_inj, iI_toInt hx, iI_toInt hy]
theorem lI_lt {x y : Int} (hx : rl x) (hy : rl y) : lI x < lI y ↔ x < y := by rw [Int64.lt_iff_toInt_lt, lI_toInt hx, lI_toInt hy]
theorem lI_eq {x y : Int} (hx : rl x) (hy : rl y) : lI x = lI y ↔ x = y := by rw [← Int64.toInt_inj, lI_toInt hx, lI_toInt hy]
theorem rg_0 : rg 0 := by unfold rg; omega
theorem iI_0 : (0 : Int32) = iI 0 := rfl
theorem iI_div {x y : Int} (hx : rg x) (hy : rg y) : iI x / iI y = iI (x.tdiv y) := by
  rw [← Int32.toInt_inj, Int32.toInt_div, iI_toInt hx, iI_toInt hy]
  unfold iI
  rw [Int32.toInt_ofInt]
theorem lI_div {x y : Int} (hx : rl x) (hy : rl y) : lI x / lI y = lI (x.tdiv y) := by
  rw [← Int64.toInt_inj, Int64.toInt_div, lI_toInt hx, lI_toInt hy]
  unfold lI
  rw [Int64.toInt_ofInt]
theorem iI_rem {x y : Int} (hx : rg x) (hy : rg y) : iI x - iI x / iI y * iI y = iI (x.tmod y) := by
  rw [iI_div hx hy, iI_mul, iI_sub]
  congr 1
  have := Int.tmod_add_mul_tdiv x y
  rw [Int.mul_comm]
  omega
theorem lI_rem {x y : Int} (hx : rl x) (hy : rl y) : lI x - lI x / lI y * lI y = lI (x.tmod y) := by
  rw [lI_div hx hy, lI_mul, lI_sub]
  congr 1
  have := Int.tmod_add_mul_tdiv x y
  rw [Int.mul_comm]
  omega
theorem iI_i2l {x : Int} (hx : rg x) : (iI x).toInt64 = lI x := by
  have h2 : rl x := by unfold rl; unfold rg at hx; omega
  rw [← Int64.toInt_inj, Int32.toInt_toInt64, iI_toInt hx, lI_toInt h2]
theorem lI_l2i {x : Int} (hx : rl x) : (lI x).toInt32 = iI x := by
  rw [← Int32.toInt_inj, Int64.toInt_toInt32, lI_toInt hx]
  unfold iI
  rw [Int32.toInt_ofInt]
theorem iI_iI {x : Int} : iI ((iI x).toInt) = iI x := px_iI_toInt _
section RR
variable {xs : Nat → Int} {L d k pc : Nat} {ls st r : List Value} {sh : List (Nat × Nat)} {M : Nat → Nat → Int} {Q : Option Value → px_H → Prop}

theorem rr_iconst {v : Int} (hf : px_fetch k pc = some (.iconst v, 1)) (G : px_R xs L d k (pc + 1, ls, .int (iI v) :: st, (sh, M)) Q) : px_R xs L d k (pc, ls, st, (sh, M)) Q := by
  refine px_R_step (fun cf => px_step_of hf ?_) G
  simp [px_exec, px_n]

theorem rr_bipush {v : Int} (hf : px_fetch k pc = some (.bipush v, 2)) (hv : -128 ≤ v ∧ v < 128) (G : px_R xs L d k (pc + 2, ls, .int (iI v) :: st, (sh, M)) Q) : px_R xs L d k (pc, ls, st, (sh, M)) Q := by
  refine px_R_step (fun cf => px_step_of hf ?_) G
  simp [px_exec, px_n, hv.1, hv.2]

theorem rr_sipush {v : Int} (hf : px_fetch k pc = some (.sipush v, 3)) (hv : -32768 ≤ v ∧ v < 32768) (G : px_R xs L d k (pc + 3, ls, .int (iI v) :: st, (sh, M)) Q) : px_R xs L d k (pc, ls, st, (sh, M)) Q := by
  refine px_R_step (fun cf => px_step_of hf ?_) G
  simp [px_exec, px_n, hv.1, hv.2]

theorem rr_lconst {v : Fin 2} {w : Int} (hf : px_fetch k pc = some (.lconst v, 1)) (hw : ((v : Nat) : Int) = w) (G : px_R xs L d k (pc + 1, ls, .long (lI w) :: st, (sh, M)) Q) : px_R xs L d k (pc, ls, st, (sh, M)) Q := by
  refine px_R_step (fun cf => px_step_of hf ?_) G
  simp [px_exec, px_n, hw]

theorem rr_ldc {i o : Nat} {v : Int} (hf : px_fetch k pc = some (.ldc i, 2)) (ho : px_own k = o) (hv : px_kc o i = some v) (G : px_R xs L d k (pc + 2, ls, .int (iI v) :: st, (sh, M)) Q) : px_R xs L d k (pc, ls, st, (sh, M)) Q := by
  refine px_R_step (fun cf => px_step_of hf ?_) G
  simp [px_exec, px_n, ho, hv]

theorem rr_ldcS {i o t : Nat} (hf : px_fetch k pc = some (.ldc i, 2)) (ho : px_own k = o) (hv : px_kc o i = none) (ht : px_sc o i = some t) (G : px_R xs L d k (pc + 2, ls, .retAddr (t + 1) :: st, (sh, M)) Q) : px_R xs L d k (pc, ls, st, (sh, M)) Q := by
  refine px_R_step (fun cf => px_step_of hf ?_) G
  simp [px_exec, px_n, ho, hv, ht]

theorem rr_ldc_w {i o : Nat} {v : Int} (hf : px_fetch k pc = some (.ldc_w i, 3)) (ho : px_own k = o) (hv : px_kc o i = some v) (G : px_R xs L d k (pc + 3, ls, .int (iI v) :: st, (sh, M)) Q) : px_R xs L d k (pc, ls, st, (sh, M)) Q := by
  refine px_R_step (fun cf => px_step_of hf ?_) G
  simp [px_exec, px_n, ho, hv]

theorem rr_ldc2_w {i o : Nat} {v : Int} (hf : px_fetch k pc = some (.ldc2_w i, 3)) (ho : px_own k = o) (hv : px_k2c o i = some v) (G : px_R xs L d k (pc + 3, ls, .long (lI v) :: st, (sh, M)) Q) : px_R xs L d k (pc, ls, st, (sh, M)) Q := by
  refine px_R_step (fun cf => px_step_of hf ?_) G
  simp [px_exec, px_n, ho, hv]

theorem rr_aconst_null (hf : px_fetch k pc = some (.aconst_null, 1)) (G : px_R xs L d k (pc + 1, ls, .null :: st, (sh, M)) Q) : px_R xs L d k (pc, ls, st, (sh, M)) Q := by
  refine px_R_step (fun cf => px_step_of hf ?_) G
  simp [px_exec, px_n]

theorem rr_iload {i : Nat} {x : Int32} (hf : px_fetch k pc = some (.iload i, 2)) (hl : ls[(i : Nat)]? = some (.int x)) (G : px_R xs L d k (pc + 2, ls, .int x :: st, (sh, M)) Q) : px_R xs L d k (pc, ls, st, (sh, M)) Q := by
  refine px_R_step (fun cf => px_step_of hf ?_) G
  simp [px_exec, px_n, px_ldi, hl]

theorem rr_iload_n {i : Fin 4} {x : Int32} (hf : px_fetch k pc = some (.iload_n i, 1)) (hl : ls[(i : Nat)]? = some (.int x)) (G : px_R xs L d k (pc + 1, ls, .int x :: st, (sh, M)) Q) : px_R xs L d k (pc, ls, st, (sh, M)) Q := by
  refine px_R_step (fun cf => px_step_of hf ?_) G
  simp [px_exec, px_n, px_ldi, hl]

theorem rr_lload {i : Nat} {x : Int64} (hf : px_fetch k pc = some (.lload i, 2)) (hl : ls[(i : Nat)]? = some (.long x)) (G : px_R xs L d k (pc + 2, ls, .long x :: st, (sh, M)) Q) : px_R xs L d k (pc, ls, st, (sh, M)) Q := by
  refine px_R_step (fun cf => px_step_of hf ?_) G
  simp [px_exec, px_n, px_ldl, hl]

theorem rr_lload_n {i : Fin 4} {x : Int64} (hf : px_fetch k pc = some (.lload_n i, 1)) (hl : ls[(i : Nat)]? = some (.long x)) (G : px_R xs L d k (pc + 1, ls, .long x :: st, (sh, M)) Q) : px_R xs L d k (pc, ls, st, (sh, M)) Q := by
  refine px_R_step (fun cf => px_step_of hf ?_) G
  simp [px_exec, px_n, px_ldl, hl]

theorem rr_aload {i : Nat} {x : Nat} (hf : px_fetch k pc = some (.aload i, 2)) (hl : ls[(i : Nat)]? = some (.ref x)) (G : px_R xs L d k (pc + 2, ls, .ref x :: st, (sh, M)) Q) : px_R xs L d k (pc, ls, st, (sh, M)) Q := by
  refine px_R_step (fun cf => px_step_of hf ?_) G
  simp [px_exec, px_n, px_lda, hl]

theorem rr_aloadN {i : Nat} (hf : px_fetch k pc = some (.aload i, 2)) (hl : ls[(i : Nat)]? = some .null) (G : px_R xs L d k (pc + 2, ls, .null :: st, (sh, M)) Q) : px_R xs L d k (pc, ls, st, (sh, M)) Q := by
  refine px_R_step (fun cf => px_step_of hf ?_) G
  simp [px_exec, px_n, px_lda, hl]

theorem rr_aloadT {i : Nat} {x : Nat} (hf : px_fetch k pc = some (.aload i, 2)) (hl : ls[(i : Nat)]? = some (.retAddr x)) (hx : ¬ x = 999) (G : px_R xs L d k (pc + 2, ls, .retAddr x :: st, (sh, M)) Q) : px_R xs L d k (pc, ls, st, (sh, M)) Q := by
  refine px_R_step (fun cf => px_step_of hf ?_) G
  simp [px_exec, px_n, px_lda, hl, hx]

theorem rr_aload_n {i : Fin 4} {x : Nat} (hf : px_fetch k pc = some (.aload_n i, 1)) (hl : ls[(i : Nat)]? = some (.ref x)) (G : px_R xs L d k (pc + 1, ls, .ref x :: st, (sh, M)) Q) : px_R xs L d k (pc, ls, st, (sh, M)) Q := by
  refine px_R_step (fun cf => px_step_of hf ?_) G
  simp [px_exec, px_n, px_lda, hl]

theorem rr_aload_nN {i : Fin 4} (hf : px_fetch k pc = some (.aload_n i, 1)) (hl : ls[(i : Nat)]? = some .null) (G : px_R xs L d k (pc + 1, ls, .null :: st, (sh, M)) Q) : px_R xs L d k (pc, ls, st, (sh, M)) Q := by
  refine px_R_step (fun cf => px_step_of hf ?_) G
  simp [px_exec, px_n, px_lda, hl]

theorem rr_aload_nT {i : Fin 4} {x : Nat} (hf : px_fetch k pc = some (.aload_n i, 1)) (hl : ls[(i : Nat)]? = some (.retAddr x)) (hx : ¬ x = 999) (G : px_R xs L d k (pc + 1, ls, .retAddr x :: st, (sh, M)) Q) : px_R xs L d k (pc, ls, st, (sh, M)) Q := by
  refine px_R_step (fun cf => px_step_of hf ?_) G
  simp [px_exec, px_n, px_lda, hl, hx]

theorem rr_istore {i : Nat} {x : Int} (hf : px_fetch k pc = some (.istore i, 2)) (ls2 : Int → List Value) (hi : (i : Nat) < ls.length) (hl : ∀ y, px_set ls i (.int (iI y)) = ls2 y) (G : ∀ y, y = x → px_R xs L d k (pc + 2, ls2 y, st, (sh, M)) Q) : px_R xs L d k (pc, ls, .int (iI x) :: st, (sh, M)) Q := by
  refine px_R_step (fun cf => px_step_of hf ?_) (G x rfl)
  simp [px_exec, px_n, px_sti, hi, hl]

theorem rr_istore_n {i : Fin 4} {x : Int} (hf : px_fetch k pc = some (.istore_n i, 1)) (ls2 : Int → List Value) (hi : (i : Nat) < ls.length) (hl : ∀ y, px_set ls i (.int (iI y)) = ls2 y) (G : ∀ y, y = x → px_R xs L d k (pc + 1, ls2 y, st, (sh, M)) Q) : px_R xs L d k (pc, ls, .int (iI x) :: st, (sh, M)) Q := by
  refine px_R_step (fun cf => px_step_of hf ?_) (G x rfl)
  simp [px_exec, px_n, px_sti, hi, hl]

theorem rr_lstore {i : Nat} {x : Int} (hf : px_fetch k pc = some (.lstore i, 2)) (ls2 : Int → List Value) (hi : (i : Nat) + 1 < ls.length) (hl : ∀ y, px_set2 ls i (.long (lI y)) = ls2 y) (G : ∀ y, y = x → px_R xs L d k (pc + 2, ls2 y, st, (sh, M)) Q) : px_R xs L d k (pc, ls, .long (lI x) :: st, (sh, M)) Q := by
  refine px_R_step (fun cf => px_step_of hf ?_) (G x rfl)
  simp [px_exec, px_n, px_stl, hi, hl]

theorem rr_lstore_n {i : Fin 4} {x : Int} (hf : px_fetch k pc = some (.lstore_n i, 1)) (ls2 : Int → List Value) (hi : (i : Nat) + 1 < ls.length) (hl : ∀ y, px_set2 ls i (.long (lI y)) = ls2 y) (G : ∀ y, y = x → px_R xs L d k (pc + 1, ls2 y, st, (sh, M)) Q) : px_R xs L d k (pc, ls, .long (lI x) :: st, (sh, M)) Q := by
  refine px_R_step (fun cf => px_step_of hf ?_) (G x rfl)
  simp [px_exec, px_n, px_stl, hi, hl]

theorem rr_astore {i : Nat} {x : Nat} (hf : px_fetch k pc = some (.astore i, 2)) (ls2 : List Value) (hi : (i : Nat) < ls.length) (hl : px_set ls i (.ref x) = ls2) (G : px_R xs L d k (pc + 2, ls2, st, (sh, M)) Q) : px_R xs L d k (pc, ls, .ref x :: st, (sh, M)) Q := by
  refine px_R_step (fun cf => px_step_of hf ?_) G
  simp [px_exec, px_n, px_sta, hi, hl]

theorem rr_astoreN {i : Nat} (hf : px_fetch k pc = some (.astore i, 2)) (ls2 : List Value) (hi : (i : Nat) < ls.length) (hl : px_set ls i .null = ls2) (G : px_R xs L d k (pc + 2, ls2, st, (sh, M)) Q) : px_R xs L d k (pc, ls, .null :: st, (sh, M)) Q := by
  refine px_R_step (fun cf => px_step_of hf ?_) G
  simp [px_exec, px_n, px_sta, hi, hl]

theorem rr_astore_n {i : Fin 4} {x : Nat} (hf : px_fetch k pc = some (.astore_n i, 1)) (ls2 : List Value) (hi : (i : Nat) < ls.length) (hl : px_set ls i (.ref x) = ls2) (G : px_R xs L d k (pc + 1, ls2, st, (sh, M)) Q) : px_R xs L d k (pc, ls, .ref x :: st, (sh, M)) Q := by
  refine px_R_step (fun cf => px_step_of hf ?_) G
  simp [px_exec, px_n, px_sta, hi, hl]

theorem rr_astore_nN {i : Fin 4} (hf : px_fetch k pc = some (.astore_n i, 1)) (ls2 : List Value) (hi : (i : Nat) < ls.length) (hl : px_set ls i .null = ls2) (G : px_R xs L d k (pc + 1, ls2, st, (sh, M)) Q) : px_R xs L d k (pc, ls, .null :: st, (sh, M)) Q := by
  refine px_R_step (fun cf => px_step_of hf ?_) G
  simp [px_exec, px_n, px_sta, hi, hl]

theorem rr_iinc {i : Nat} {n x : Int} (hf : px_fetch k pc = some (.iinc i n, 3)) (hx : ls[i]? = some (.int (iI x))) (ls2 : Int → List Value) (hl : ∀ y, px_set ls i (.int (iI y)) = ls2 y) (G : ∀ y, y = x + n → px_R xs L d k (pc + 3, ls2 y, st, (sh, M)) Q) : px_R xs L d k (pc, ls, st, (sh, M)) Q := by
  refine px_R_step (fun cf => px_step_of hf ?_) (G (x + n) rfl)
  simp [px_exec, px_n, hx, iI_add, hl]

theorem rr_iadd {x y : Int} (hf : px_fetch k pc = some (.iadd, 1)) (G : px_R xs L d k (pc + 1, ls, .int (iI (x + y)) :: st, (sh, M)) Q) : px_R xs L d k (pc, ls, .int (iI y) :: .int (iI x) :: st, (sh, M)) Q := by
  refine px_R_step (fun cf => px_step_of hf ?_) G
  simp [px_exec, px_n, px_ii, iI_add]

theorem rr_isub {x y : Int} (hf : px_fetch k pc = some (.isub, 1)) (G : px_R xs L d k (pc + 1, ls, .int (iI (x - y)) :: st, (sh, M)) Q) : px_R xs L d k (pc, ls, .int (iI y) :: .int (iI x) :: st, (sh, M)) Q := by
  refine px_R_step (fun cf => px_step_of hf ?_) G
  simp [px_exec, px_n, px_ii, iI_sub]

theorem rr_imul {x y : Int} (hf : px_fetch k pc = some (.imul, 1)) (G : px_R xs L d k (pc + 1, ls, .int (iI (x * y)) :: st, (sh, M)) Q) : px_R xs L d k (pc, ls, .int (iI y) :: .int (iI x) :: st, (sh, M)) Q := by
  refine px_R_step (fun cf => px_step_of hf ?_) G
  simp [px_exec, px_n, px_ii, iI_mul]

theorem rr_ladd {x y : Int} (hf : px_fetch k pc = some (.ladd, 1)) (G : px_R xs L d k (pc + 1, ls, .long (lI (x + y)) :: st, (sh, M)) Q) : px_R xs L d k (pc, ls, .long (lI y) :: .long (lI x) :: st, (sh, M)) Q := by
  refine px_R_step (fun cf => px_step_of hf ?_) G
  simp [px_exec, px_n, px_ll, lI_add]

theorem rr_lsub {x y : Int} (hf : px_fetch k pc = some (.lsub, 1)) (G : px_R xs L d k (pc + 1, ls, .long (lI (x - y)) :: st, (sh, M)) Q) : px_R xs L d k (pc, ls, .long (lI y) :: .long (lI x) :: st, (sh, M)) Q := by
  refine px_R_step (fun cf => px_step_of hf ?_) G
  simp [px_exec, px_n, px_ll, lI_sub]

theorem rr_lmul {x y : Int} (hf : px_fetch k pc = some (.lmul, 1)) (G : px_R xs L d k (pc + 1, ls, .long (lI (x * y)) :: st, (sh, M)) Q) : px_R xs L d k (pc, ls, .long (lI y) :: .long (lI x) :: st, (sh, M)) Q := by
  refine px_R_step (fun cf => px_step_of hf ?_) G
  simp [px_exec, px_n, px_ll, lI_mul]

theorem rr_ineg {x : Int} (hf : px_fetch k pc = some (.ineg, 1)) (G : px_R xs L d k (pc + 1, ls, .int (iI (-x)) :: st, (sh, M)) Q) : px_R xs L d k (pc, ls, .int (iI x) :: st, (sh, M)) Q := by
  refine px_R_step (fun cf => px_step_of hf ?_) G
  simp [px_exec, px_n, iI_neg]

theorem rr_idiv {x y : Int} (hf : px_fetch k pc = some (.idiv, 1)) (hx : rg x) (hy : rg y) (h0 : y ≠ 0) (G : px_R xs L d k (pc + 1, ls, .int (iI (x.tdiv y)) :: st, (sh, M)) Q) : px_R xs L d k (pc, ls, .int (iI y) :: .int (iI x) :: st, (sh, M)) Q := by
  have hne : ¬ iI y = 0 := fun q => h0 (by have := (iI_eq hy (by unfold rg; omega)).mp (show iI y = iI 0 from q); exact this)
  refine px_R_step (fun cf => px_step_of hf ?_) G
  simp [px_exec, px_n, hne, iI_div hx hy]

theorem rr_irem {x y : Int} (hf : px_fetch k pc = some (.irem, 1)) (hx : rg x) (hy : rg y) (h0 : y ≠ 0) (G : px_R xs L d k (pc + 1, ls, .int (iI (x.tmod y)) :: st, (sh, M)) Q) : px_R xs L d k (pc, ls, .int (iI y) :: .int (iI x) :: st, (sh, M)) Q := by
  have hne : ¬ iI y = 0 := fun q => h0 (by have := (iI_eq hy (by unfold rg; omega)).mp (show iI y = iI 0 from q); exact this)
  refine px_R_step (fun cf => px_step_of hf ?_) G
  simp [px_exec, px_n, hne, iI_rem hx hy]

theorem rr_ldiv {x y : Int} (hf : px_fetch k pc = some (.ldiv, 1)) (hx : rl x) (hy : rl y) (h0 : y ≠ 0) (G : px_R xs L d k (pc + 1, ls, .long (lI (x.tdiv y)) :: st, (sh, M)) Q) : px_R xs L d k (pc, ls, .long (lI y) :: .long (lI x) :: st, (sh, M)) Q := by
  have hne : ¬ lI y = 0 := fun q => h0 (by have := (lI_eq hy (by unfold rl; omega)).mp (show lI y = lI 0 from q); exact this)
  refine px_R_step (fun cf => px_step_of hf ?_) G
  simp [px_exec, px_n, hne, lI_div hx hy]

theorem rr_lrem {x y : Int} (hf : px_fetch k pc = some (.lrem, 1)) (hx : rl x) (hy : rl y) (h0 : y ≠ 0) (G : px_R xs L d k (pc + 1, ls, .long (lI (x.tmod y)) :: st, (sh, M)) Q) : px_R xs L d k (pc, ls, .long (lI y) :: .long (lI x) :: st, (sh, M)) Q := by
  have hne : ¬ lI y = 0 := fun q => h0 (by have := (lI_eq hy (by unfold rl; omega)).mp (show lI y = lI 0 from q); exact this)
  refine px_R_step (fun cf => px_step_of hf ?_) G
  simp [px_exec, px_n, hne, lI_rem hx hy]

theorem rr_iand {x y : Int} (z : Int) (hf : px_fetch k pc = some (.iand, 1)) (hz : iI x &&& iI y = iI z) (G : px_R xs L d k (pc + 1, ls, .int (iI z) :: st, (sh, M)) Q) : px_R xs L d k (pc, ls, .int (iI y) :: .int (iI x) :: st, (sh, M)) Q := by
  refine px_R_step (fun cf => px_step_of hf ?_) G
  simp only [px_exec, px_n, px_ii, if_true, hz]

theorem rr_ior {x y : Int} (z : Int) (hf : px_fetch k pc = some (.ior, 1)) (hz : iI x ||| iI y = iI z) (G : px_R xs L d k (pc + 1, ls, .int (iI z) :: st, (sh, M)) Q) : px_R xs L d k (pc, ls, .int (iI y) :: .int (iI x) :: st, (sh, M)) Q := by
  refine px_R_step (fun cf => px_step_of hf ?_) G
  simp only [px_exec, px_n, px_ii, if_true, hz]

theorem rr_ixor {x y : Int} (z : Int) (hf : px_fetch k pc = some (.ixor, 1)) (hz : iI x ^^^ iI y = iI z) (G : px_R xs L d k (pc + 1, ls, .int (iI z) :: st, (sh, M)) Q) : px_R xs L d k (pc, ls, .int (iI y) :: .int (iI x) :: st, (sh, M)) Q := by
  refine px_R_step (fun cf => px_step_of hf ?_) G
  simp only [px_exec, px_n, px_ii, if_true, hz]

theorem rr_ishl {x y : Int} (z : Int) (hf : px_fetch k pc = some (.ishl, 1)) (hz : iI x <<< (iI y &&& 31) = iI z) (G : px_R xs L d k (pc + 1, ls, .int (iI z) :: st, (sh, M)) Q) : px_R xs L d k (pc, ls, .int (iI y) :: .int (iI x) :: st, (sh, M)) Q := by
  refine px_R_step (fun cf => px_step_of hf ?_) G
  simp only [px_exec, px_n, px_ii, if_true, hz]

theorem rr_ishr {x y : Int} (z : Int) (hf : px_fetch k pc = some (.ishr, 1)) (hz : iI x >>> (iI y &&& 31) = iI z) (G : px_R xs L d k (pc + 1, ls, .int (iI z) :: st, (sh, M)) Q) : px_R xs L d k (pc, ls, .int (iI y) :: .int (iI x) :: st, (sh, M)) Q := by
  refine px_R_step (fun cf => px_step_of hf ?_) G
  simp only [px_exec, px_n, px_ii, if_true, hz]

theorem rr_iushr {x y : Int} (z : Int) (hf : px_fetch k pc = some (.iushr, 1)) (hz : ((iI x).toUInt32 >>> ((iI y).toUInt32 &&& Int32.toUInt32 31)).toInt32 = iI z) (G : px_R xs L d k (pc + 1, ls, .int (iI z) :: st, (sh, M)) Q) : px_R xs L d k (pc, ls, .int (iI y) :: .int (iI x) :: st, (sh, M)) Q := by
  refine px_R_step (fun cf => px_step_of hf ?_) G
  simp only [px_exec, px_n, px_ii, if_true, hz]

theorem rr_i2l {x : Int} (hf : px_fetch k pc = some (.i2l, 1)) (hx : rg x) (G : px_R xs L d k (pc + 1, ls, .long (lI x) :: st, (sh, M)) Q) : px_R xs L d k (pc, ls, .int (iI x) :: st, (sh, M)) Q := by
  refine px_R_step (fun cf => px_step_of hf ?_) G
  simp [px_exec, px_n, iI_i2l hx]

theorem rr_l2i {x : Int} (hf : px_fetch k pc = some (.l2i, 1)) (hx : rl x) (G : px_R xs L d k (pc + 1, ls, .int (iI x) :: st, (sh, M)) Q) : px_R xs L d k (pc, ls, .long (lI x) :: st, (sh, M)) Q := by
  refine px_R_step (fun cf => px_step_of hf ?_) G
  simp [px_exec, px_n, lI_l2i hx]

theorem rr_i2c {x : Int} (hf : px_fetch k pc = some (.i2c, 1)) (hx : 0 ≤ x ∧ x < 256) (G : px_R xs L d k (pc + 1, ls, .int (iI x) :: st, (sh, M)) Q) : px_R xs L d k (pc, ls, .int (iI x) :: st, (sh, M)) Q := by
  have hr : (iI x).toInt = x := iI_toInt (by unfold rg; omega)
  refine px_R_step (fun cf => px_step_of hf ?_) G
  simp [px_exec, px_n, hr, hx.1, hx.2]

def cm (x y : Int) : Int := if y < x then 1 else if x = y then 0 else -1
theorem lI_cmp {x y : Int} (hx : rl x) (hy : rl y) : lg_cmp (lI x) (lI y) = iI (cm x y) := by
  unfold lg_cmp cm
  simp only [gt_iff_lt, lI_lt hy hx, lI_eq hx hy]
  split
  · rfl
  · split <;> rfl

theorem rr_lcmp {x y : Int} (hf : px_fetch k pc = some (.lcmp, 1)) (hx : rl x) (hy : rl y) (G : px_R xs L d k (pc + 1, ls, .int (iI (cm x y)) :: st, (sh, M)) Q) : px_R xs L d k (pc, ls, .long (lI y) :: .long (lI x) :: st, (sh, M)) Q := by
  refine px_R_step (fun cf => px_step_of hf ?_) G
  simp [px_exec, px_n, lI_cmp hx hy]

theorem rr_dup {v : Value} (hf : px_fetch k pc = some (.dup, 1)) (hv : v.category = 1) (G : px_R xs L d k (pc + 1, ls, v :: v :: st, (sh, M)) Q) : px_R xs L d k (pc, ls, v :: st, (sh, M)) Q := by
  refine px_R_step (fun cf => px_step_of hf ?_) G
  simp [px_exec, px_n, hv]

theorem rr_pop {v : Value} (hf : px_fetch k pc = some (.pop, 1)) (hv : v.category = 1) (G : px_R xs L d k (pc + 1, ls, st, (sh, M)) Q) : px_R xs L d k (pc, ls, v :: st, (sh, M)) Q := by
  refine px_R_step (fun cf => px_step_of hf ?_) G
  simp [px_exec, px_n, hv]

theorem rr_dup2 {v w : Value} (hf : px_fetch k pc = some (.dup2, 1)) (hv : v.category = 1) (hw : w.category = 1) (G : px_R xs L d k (pc + 1, ls, v :: w :: v :: w :: st, (sh, M)) Q) : px_R xs L d k (pc, ls, v :: w :: st, (sh, M)) Q := by
  refine px_R_step (fun cf => px_step_of hf ?_) G
  simp [px_exec, px_n, hv, hw]

theorem rr_goto {off : Int} (tgt : Nat) (hf : px_fetch k pc = some (.goto off, 3)) (ht : (pc : Int) + off = (tgt : Int)) (G : px_R xs L d k (tgt, ls, st, (sh, M)) Q) : px_R xs L d k (pc, ls, st, (sh, M)) Q := by
  refine px_R_step (fun cf => px_step_of hf ?_) G
  have e : px_tg pc off = tgt := by unfold px_tg; omega
  have e2 : 0 ≤ (pc : Int) + off := by omega
  simp [px_exec, px_n, px_br, e, e2]

theorem rr_icmp_eq {x y : Int} {off : Int} (tgt : Nat) (hf : px_fetch k pc = some (.if_icmp .eq off, 3)) (ht : (pc : Int) + off = (tgt : Int)) (hx : rg x) (hy : rg y) (G1 : x = y → px_R xs L d k (tgt, ls, st, (sh, M)) Q) (G2 : ¬ (x = y) → px_R xs L d k (pc + 3, ls, st, (sh, M)) Q) : px_R xs L d k (pc, ls, .int (iI y) :: .int (iI x) :: st, (sh, M)) Q := by
  have e : px_tg pc off = tgt := by unfold px_tg; omega
  have e2 : 0 ≤ (pc : Int) + off := by omega
  have hq : iI x = iI y ↔ x = y := iI_eq hx hy
  by_cases h : x = y
  · refine px_R_step (fun cf => px_step_of hf ?_) (G1 h)
    have h2 := hq.mpr h
    simp only [px_exec, px_n, px_br, e, e2, if_true, if_pos h2]
  · refine px_R_step (fun cf => px_step_of hf ?_) (G2 h)
    have h2 := fun z => h (hq.mp z)
    simp only [px_exec, px_n, px_br, e, e2, if_true, if_neg h2]

theorem rr_if_eq {x : Int} {off : Int} (tgt : Nat) (hf : px_fetch k pc = some (.ifCond .eq off, 3)) (ht : (pc : Int) + off = (tgt : Int)) (hx : rg x) (G1 : x = 0 → px_R xs L d k (tgt, ls, st, (sh, M)) Q) (G2 : ¬ (x = 0) → px_R xs L d k (pc + 3, ls, st, (sh, M)) Q) : px_R xs L d k (pc, ls, .int (iI x) :: st, (sh, M)) Q := by
  have e : px_tg pc off = tgt := by unfold px_tg; omega
  have e2 : 0 ≤ (pc : Int) + off := by omega
  have hy := rg_0
  have hq : iI x = (0 : Int32) ↔ x = 0 := iI_eq hx hy
  by_cases h : x = 0
  · refine px_R_step (fun cf => px_step_of hf ?_) (G1 h)
    have h2 := hq.mpr h
    simp only [px_exec, px_n, px_br, e, e2, if_true, if_pos h2]
  · refine px_R_step (fun cf => px_step_of hf ?_) (G2 h)
    have h2 := fun z => h (hq.mp z)
    simp only [px_exec, px_n, px_br, e, e2, if_true, if_neg h2]

theorem rr_icmp_ne {x y : Int} {off : Int} (tgt : Nat) (hf : px_fetch k pc = some (.if_icmp .ne off, 3)) (ht : (pc : Int) + off = (tgt : Int)) (hx : rg x) (hy : rg y) (G1 : ¬ x = y → px_R xs L d k (tgt, ls, st, (sh, M)) Q) (G2 : ¬ (¬ x = y) → px_R xs L d k (pc + 3, ls, st, (sh, M)) Q) : px_R xs L d k (pc, ls, .int (iI y) :: .int (iI x) :: st, (sh, M)) Q := by
  have e : px_tg pc off = tgt := by unfold px_tg; omega
  have e2 : 0 ≤ (pc : Int) + off := by omega
  have hq : ¬ iI x = iI y ↔ ¬ x = y := not_congr (iI_eq hx hy)
  by_cases h : ¬ x = y
  · refine px_R_step (fun cf => px_step_of hf ?_) (G1 h)
    have h2 := hq.mpr h
    simp only [px_exec, px_n, px_br, e, e2, if_true, if_pos h2]
  · refine px_R_step (fun cf => px_step_of hf ?_) (G2 h)
    have h2 := fun z => h (hq.mp z)
    simp only [px_exec, px_n, px_br, e, e2, if_true, if_neg h2]

theorem rr_if_ne {x : Int} {off : Int} (tgt : Nat) (hf : px_fetch k pc = some (.ifCond .ne off, 3)) (ht : (pc : Int) + off = (tgt : Int)) (hx : rg x) (G1 : ¬ x = 0 → px_R xs L d k (tgt, ls, st, (sh, M)) Q) (G2 : ¬ (¬ x = 0) → px_R xs L d k (pc + 3, ls, st, (sh, M)) Q) : px_R xs L d k (pc, ls, .int (iI x) :: st, (sh, M)) Q := by
  have e : px_tg pc off = tgt := by unfold px_tg; omega
  have e2 : 0 ≤ (pc : Int) + off := by omega
  have hy := rg_0
  have hq : ¬ iI x = (0 : Int32) ↔ ¬ x = 0 := not_congr (iI_eq hx hy)
  by_cases h : ¬ x = 0
  · refine px_R_step (fun cf => px_step_of hf ?_) (G1 h)
    have h2 := hq.mpr h
    simp only [px_exec, px_n, px_br, e, e2, if_true, if_pos h2]
  · refine px_R_step (fun cf => px_step_of hf ?_) (G2 h)
    have h2 := fun z => h (hq.mp z)
    simp only [px_exec, px_n, px_br, e, e2, if_true, if_neg h2]

theorem rr_icmp_lt {x y : Int} {off : Int} (tgt : Nat) (hf : px_fetch k pc = some (.if_icmp .lt off, 3)) (ht : (pc : Int) + off = (tgt : Int)) (hx : rg x) (hy : rg y) (G1 : x < y → px_R xs L d k (tgt, ls, st, (sh, M)) Q) (G2 : ¬ (x < y) → px_R xs L d k (pc + 3, ls, st, (sh, M)) Q) : px_R xs L d k (pc, ls, .int (iI y) :: .int (iI x) :: st, (sh, M)) Q := by
  have e : px_tg pc off = tgt := by unfold px_tg; omega
  have e2 : 0 ≤ (pc : Int) + off := by omega
  have hq : iI x < iI y ↔ x < y := iI_lt hx hy
  by_cases h : x < y
  · refine px_R_step (fun cf => px_step_of hf ?_) (G1 h)
    have h2 := hq.mpr h
    simp only [px_exec, px_n, px_br, e, e2, if_true, if_pos h2]
  · refine px_R_step (fun cf => px_step_of hf ?_) (G2 h)
    have h2 := fun z => h (hq.mp z)
    simp only [px_exec, px_n, px_br, e, e2, if_true, if_neg h2]

theorem rr_if_lt {x : Int} {off : Int} (tgt : Nat) (hf : px_fetch k pc = some (.ifCond .lt off, 3)) (ht : (pc : Int) + off = (tgt : Int)) (hx : rg x) (G1 : x < 0 → px_R xs L d k (tgt, ls, st, (sh, M)) Q) (G2 : ¬ (x < 0) → px_R xs L d k (pc + 3, ls, st, (sh, M)) Q) : px_R xs L d k (pc, ls, .int (iI x) :: st, (sh, M)) Q := by
  have e : px_tg pc off = tgt := by unfold px_tg; omega
  have e2 : 0 ≤ (pc : Int) + off := by omega
  have hy := rg_0
  have hq : iI x < (0 : Int32) ↔ x < 0 := iI_lt hx hy
  by_cases h : x < 0
  · refine px_R_step (fun cf => px_step_of hf ?_) (G1 h)
    have h2 := hq.mpr h
    simp only [px_exec, px_n, px_br, e, e2, if_true, if_pos h2]
  · refine px_R_step (fun cf => px_step_of hf ?_) (G2 h)
    have h2 := fun z => h (hq.mp z)
    simp only [px_exec, px_n, px_br, e, e2, if_true, if_neg h2]

theorem rr_icmp_ge {x y : Int} {off : Int} (tgt : Nat) (hf : px_fetch k pc = some (.if_icmp .ge off, 3)) (ht : (pc : Int) + off = (tgt : Int)) (hx : rg x) (hy : rg y) (G1 : y ≤ x → px_R xs L d k (tgt, ls, st, (sh, M)) Q) (G2 : ¬ (y ≤ x) → px_R xs L d k (pc + 3, ls, st, (sh, M)) Q) : px_R xs L d k (pc, ls, .int (iI y) :: .int (iI x) :: st, (sh, M)) Q := by
  have e : px_tg pc off = tgt := by unfold px_tg; omega
  have e2 : 0 ≤ (pc : Int) + off := by omega
  have hq : iI y ≤ iI x ↔ y ≤ x := iI_le hy hx
  by_cases h : y ≤ x
  · refine px_R_step (fun cf => px_step_of hf ?_) (G1 h)
    have h2 := hq.mpr h
    simp only [px_exec, px_n, px_br, e, e2, if_true, if_pos h2]
  · refine px_R_step (fun cf => px_step_of hf ?_) (G2 h)
    have h2 := fun z => h (hq.mp z)
    simp only [px_exec, px_n, px_br, e, e2, if_true, if_neg h2]

theorem rr_if_ge {x : Int} {off : Int} (tgt : Nat) (hf : px_fetch k pc = some (.ifCond .ge off, 3)) (ht : (pc : Int) + off = (tgt : Int)) (hx : rg x) (G1 : 0 ≤ x → px_R xs L d k (tgt, ls, st, (sh, M)) Q) (G2 : ¬ (0 ≤ x) → px_R xs L d k (pc + 3, ls, st, (sh, M)) Q) : px_R xs L d k (pc, ls, .int (iI x) :: st, (sh, M)) Q := by
  have e : px_tg pc off = tgt := by unfold px_tg; omega
  have e2 : 0 ≤ (pc : Int) + off := by omega
  have hy := rg_0
  have hq : (0 : Int32) ≤ iI x ↔ 0 ≤ x := iI_le hy hx
  by_cases h : 0 ≤ x
  · refine px_R_step (fun cf => px_step_of hf ?_) (G1 h)
    have h2 := hq.mpr h
    simp only [px_exec, px_n, px_br, e, e2, if_true, if_pos h2]
  · refine px_R_step (fun cf => px_step_of hf ?_) (G2 h)
    have h2 := fun z => h (hq.mp z)
    simp only [px_exec, px_n, px_br, e, e2, if_true, if_neg h2]

theorem rr_icmp_gt {x y : Int} {off : Int} (tgt : Nat) (hf : px_fetch k pc = some (.if_icmp .gt off, 3)) (ht : (pc : Int) + off = (tgt : Int)) (hx : rg x) (hy : rg y) (G1 : y < x → px_R xs L d k (tgt, ls, st, (sh, M)) Q) (G2 : ¬ (y < x) → px_R xs L d k (pc + 3, ls, st, (sh, M)) Q) : px_R xs L d k (pc, ls, .int (iI y) :: .int (iI x) :: st, (sh, M)) Q := by
  have e : px_tg pc off = tgt := by unfold px_tg; omega
  have e2 : 0 ≤ (pc : Int) + off := by omega
  have hq : iI y < iI x ↔ y < x := iI_lt hy hx
  by_cases h : y < x
  · refine px_R_step (fun cf => px_step_of hf ?_) (G1 h)
    have h2 := hq.mpr h
    simp only [px_exec, px_n, px_br, e, e2, if_true, if_pos h2]
  · refine px_R_step (fun cf => px_step_of hf ?_) (G2 h)
    have h2 := fun z => h (hq.mp z)
    simp only [px_exec, px_n, px_br, e, e2, if_true, if_neg h2]

theorem rr_if_gt {x : Int} {off : Int} (tgt : Nat) (hf : px_fetch k pc = some (.ifCond .gt off, 3)) (ht : (pc : Int) + off = (tgt : Int)) (hx : rg x) (G1 : 0 < x → px_R xs L d k (tgt, ls, st, (sh, M)) Q) (G2 : ¬ (0 < x) → px_R xs L d k (pc + 3, ls, st, (sh, M)) Q) : px_R xs L d k (pc, ls, .int (iI x) :: st, (sh, M)) Q := by
  have e : px_tg pc off = tgt := by unfold px_tg; omega
  have e2 : 0 ≤ (pc : Int) + off := by omega
  have hy := rg_0
  have hq : (0 : Int32) < iI x ↔ 0 < x := iI_lt hy hx
  by_cases h : 0 < x
  · refine px_R_step (fun cf => px_step_of hf ?_) (G1 h)
    have h2 := hq.mpr h
    simp only [px_exec, px_n, px_br, e, e2, if_true, if_pos h2]
  · refine px_R_step (fun cf => px_step_of hf ?_) (G2 h)
    have h2 := fun z => h (hq.mp z)
    simp only [px_exec, px_n, px_br, e, e2, if_true, if_neg h2]

theorem rr_icmp_le {x y : Int} {off : Int} (tgt : Nat) (hf : px_fetch k pc = some (.if_icmp .le off, 3)) (ht : (pc : Int) + off = (tgt : Int)) (hx : rg x) (hy : rg y) (G1 : x ≤ y → px_R xs L d k (tgt, ls, st, (sh, M)) Q) (G2 : ¬ (x ≤ y) → px_R xs L d k (pc + 3, ls, st, (sh, M)) Q) : px_R xs L d k (pc, ls, .int (iI y) :: .int (iI x) :: st, (sh, M)) Q := by
  have e : px_tg pc off = tgt := by unfold px_tg; omega
  have e2 : 0 ≤ (pc : Int) + off := by omega
  have hq : iI x ≤ iI y ↔ x ≤ y := iI_le hx hy
  by_cases h : x ≤ y
  · refine px_R_step (fun cf => px_step_of hf ?_) (G1 h)
    have h2 := hq.mpr h
    simp only [px_exec, px_n, px_br, e, e2, if_true, if_pos h2]
  · refine px_R_step (fun cf => px_step_of hf ?_) (G2 h)
    have h2 := fun z => h (hq.mp z)
    simp only [px_exec, px_n, px_br, e, e2, if_true, if_neg h2]

theorem rr_if_le {x : Int} {off : Int} (tgt : Nat) (hf : px_fetch k pc = some (.ifCond .le off, 3)) (ht : (pc : Int) + off = (tgt : Int)) (hx : rg x) (G1 : x ≤ 0 → px_R xs L d k (tgt, ls, st, (sh, M)) Q) (G2 : ¬ (x ≤ 0) → px_R xs L d k (pc + 3, ls, st, (sh, M)) Q) : px_R xs L d k (pc, ls, .int (iI x) :: st, (sh, M)) Q := by
  have e : px_tg pc off = tgt := by unfold px_tg; omega
  have e2 : 0 ≤ (pc : Int) + off := by omega
  have hy := rg_0
  have hq : iI x ≤ (0 : Int32) ↔ x ≤ 0 := iI_le hx hy
  by_cases h : x ≤ 0
  · refine px_R_step (fun cf => px_step_of hf ?_) (G1 h)
    have h2 := hq.mpr h
    simp only [px_exec, px_n, px_br, e, e2, if_true, if_pos h2]
  · refine px_R_step (fun cf => px_step_of hf ?_) (G2 h)
    have h2 := fun z => h (hq.mp z)
    simp only [px_exec, px_n, px_br, e, e2, if_true, if_neg h2]

theorem rr_ifb_eq {c : Prop} [Decidable c] {off : Int} (tgt : Nat) (hf : px_fetch k pc = some (.ifCond .eq off, 3)) (ht : (pc : Int) + off = (tgt : Int)) (G1 : ¬ c → px_R xs L d k (tgt, ls, st, (sh, M)) Q) (G2 : c → px_R xs L d k (pc + 3, ls, st, (sh, M)) Q) : px_R xs L d k (pc, ls, .int (iI (bI c)) :: st, (sh, M)) Q := by
  refine rr_if_eq tgt hf ht (by have := bI_rg c; unfold rg; omega) (fun h => G1 ?_) (fun h => G2 ?_)
  · unfold bI at h; split at h <;> first | assumption | (exfalso; omega)
  · unfold bI at h; split at h <;> first | assumption | (exfalso; omega)

theorem rr_ifb_ne {c : Prop} [Decidable c] {off : Int} (tgt : Nat) (hf : px_fetch k pc = some (.ifCond .ne off, 3)) (ht : (pc : Int) + off = (tgt : Int)) (G1 : c → px_R xs L d k (tgt, ls, st, (sh, M)) Q) (G2 : ¬ c → px_R xs L d k (pc + 3, ls, st, (sh, M)) Q) : px_R xs L d k (pc, ls, .int (iI (bI c)) :: st, (sh, M)) Q := by
  refine rr_if_ne tgt hf ht (by have := bI_rg c; unfold rg; omega) (fun h => G1 ?_) (fun h => G2 ?_)
  · unfold bI at h; split at h <;> first | assumption | (exfalso; omega)
  · unfold bI at h; split at h <;> first | assumption | (exfalso; omega)

theorem rr_ifc_eq {x y : Int} {off : Int} (tgt : Nat) (hf : px_fetch k pc = some (.ifCond .eq off, 3)) (ht : (pc : Int) + off = (tgt : Int)) (G1 : x = y → px_R xs L d k (tgt, ls, st, (sh, M)) Q) (G2 : ¬ (x = y) → px_R xs L d k (pc + 3, ls, st, (sh, M)) Q) : px_R xs L d k (pc, ls, .int (iI (cm x y)) :: st, (sh, M)) Q := by
  refine rr_if_eq tgt hf ht (by unfold cm rg; split <;> (try split) <;> omega) (fun h => G1 ?_) (fun h => G2 ?_)
  · unfold cm at h; split at h <;> (try split at h) <;> omega
  · unfold cm at h; split at h <;> (try split at h) <;> omega

theorem rr_ifc_ne {x y : Int} {off : Int} (tgt : Nat) (hf : px_fetch k pc = some (.ifCond .ne off, 3)) (ht : (pc : Int) + off = (tgt : Int)) (G1 : ¬ x = y → px_R xs L d k (tgt, ls, st, (sh, M)) Q) (G2 : ¬ (¬ x = y) → px_R xs L d k (pc + 3, ls, st, (sh, M)) Q) : px_R xs L d k (pc, ls, .int (iI (cm x y)) :: st, (sh, M)) Q := by
  refine rr_if_ne tgt hf ht (by unfold cm rg; split <;> (try split) <;> omega) (fun h => G1 ?_) (fun h => G2 ?_)
  · unfold cm at h; split at h <;> (try split at h) <;> omega
  · unfold cm at h; split at h <;> (try split at h) <;> omega

theorem rr_ifc_lt {x y : Int} {off : Int} (tgt : Nat) (hf : px_fetch k pc = some (.ifCond .lt off, 3)) (ht : (pc : Int) + off = (tgt : Int)) (G1 : x < y → px_R xs L d k (tgt, ls, st, (sh, M)) Q) (G2 : ¬ (x < y) → px_R xs L d k (pc + 3, ls, st, (sh, M)) Q) : px_R xs L d k (pc, ls, .int (iI (cm x y)) :: st, (sh, M)) Q := by
  refine rr_if_lt tgt hf ht (by unfold cm rg; split <;> (try split) <;> omega) (fun h => G1 ?_) (fun h => G2 ?_)
  · unfold cm at h; split at h <;> (try split at h) <;> omega
  · unfold cm at h; split at h <;> (try split at h) <;> omega

theorem rr_ifc_ge {x y : Int} {off : Int} (tgt : Nat) (hf : px_fetch k pc = some (.ifCond .ge off, 3)) (ht : (pc : Int) + off = (tgt : Int)) (G1 : y ≤ x → px_R xs L d k (tgt, ls, st, (sh, M)) Q) (G2 : ¬ (y ≤ x) → px_R xs L d k (pc + 3, ls, st, (sh, M)) Q) : px_R xs L d k (pc, ls, .int (iI (cm x y)) :: st, (sh, M)) Q := by
  refine rr_if_ge tgt hf ht (by unfold cm rg; split <;> (try split) <;> omega) (fun h => G1 ?_) (fun h => G2 ?_)
  · unfold cm at h; split at h <;> (try split at h) <;> omega
  · unfold cm at h; split at h <;> (try split at h) <;> omega

theorem rr_ifc_gt {x y : Int} {off : Int} (tgt : Nat) (hf : px_fetch k pc = some (.ifCond .gt off, 3)) (ht : (pc : Int) + off = (tgt : Int)) (G1 : y < x → px_R xs L d k (tgt, ls, st, (sh, M)) Q) (G2 : ¬ (y < x) → px_R xs L d k (pc + 3, ls, st, (sh, M)) Q) : px_R xs L d k (pc, ls, .int (iI (cm x y)) :: st, (sh, M)) Q := by
  refine rr_if_gt tgt hf ht (by unfold cm rg; split <;> (try split) <;> omega) (fun h => G1 ?_) (fun h => G2 ?_)
  · unfold cm at h; split at h <;> (try split at h) <;> omega
  · unfold cm at h; split at h <;> (try split at h) <;> omega

theorem rr_ifc_le {x y : Int} {off : Int} (tgt : Nat) (hf : px_fetch k pc = some (.ifCond .le off, 3)) (ht : (pc : Int) + off = (tgt : Int)) (G1 : x ≤ y → px_R xs L d k (tgt, ls, st, (sh, M)) Q) (G2 : ¬ (x ≤ y) → px_R xs L d k (pc + 3, ls, st, (sh, M)) Q) : px_R xs L d k (pc, ls, .int (iI (cm x y)) :: st, (sh, M)) Q := by
  refine rr_if_le tgt hf ht (by unfold cm rg; split <;> (try split) <;> omega) (fun h => G1 ?_) (fun h => G2 ?_)
  · unfold cm at h; split at h <;> (try split at h) <;> omega
  · unfold cm at h; split at h <;> (try split at h) <;> omega

theorem rr_ifnonnull {x : Nat} {off : Int} (tgt : Nat) (hf : px_fetch k pc = some (.ifnonnull off, 3)) (ht : (pc : Int) + off = (tgt : Int)) (G : px_R xs L d k (tgt, ls, st, (sh, M)) Q) : px_R xs L d k (pc, ls, .ref x :: st, (sh, M)) Q := by
  refine px_R_step (fun cf => px_step_of hf ?_) G
  have e : px_tg pc off = tgt := by unfold px_tg; omega
  have e2 : 0 ≤ (pc : Int) + off := by omega
  simp [px_exec, px_n, px_br, e, e2]

theorem rr_ifnonnullN {off : Int} (hf : px_fetch k pc = some (.ifnonnull off, 3)) (G : px_R xs L d k (pc + 3, ls, st, (sh, M)) Q) : px_R xs L d k (pc, ls, .null :: st, (sh, M)) Q := by
  refine px_R_step (fun cf => px_step_of hf ?_) G
  simp [px_exec, px_n]

theorem rr_tsw_out {x dflt lo hi : Int} {offs : Array Int} {len : Nat} (tgt : Nat) (hf : px_fetch k pc = some (.tableswitch dflt lo hi offs, len)) (ht : (pc : Int) + dflt = (tgt : Int)) (hx : rg x) (h : x < lo ∨ hi < x) (G : px_R xs L d k (tgt, ls, st, (sh, M)) Q) : px_R xs L d k (pc, ls, .int (iI x) :: st, (sh, M)) Q := by
  refine px_R_step (fun cf => px_step_of hf ?_) G
  have e : px_tg pc dflt = tgt := by unfold px_tg; omega
  have e2 : 0 ≤ (pc : Int) + dflt := by omega
  simp only [px_exec, px_n, px_br, iI_toInt hx, if_pos h, e, e2, if_true]
theorem rr_tsw_in {x dflt lo hi off : Int} {offs : Array Int} {len : Nat} (tgt : Nat) (hf : px_fetch k pc = some (.tableswitch dflt lo hi offs, len)) (hx : rg x) (h : ¬ (x < lo ∨ hi < x)) (ho : offs[(x - lo).toNat]? = some off) (ht : (pc : Int) + off = (tgt : Int)) (G : px_R xs L d k (tgt, ls, st, (sh, M)) Q) : px_R xs L d k (pc, ls, .int (iI x) :: st, (sh, M)) Q := by
  refine px_R_step (fun cf => px_step_of hf ?_) G
  have e : px_tg pc off = tgt := by unfold px_tg; omega
  have e2 : 0 ≤ (pc : Int) + off := by omega
  simp only [px_exec, px_n, px_br, iI_toInt hx, if_neg h, ho, e, e2, if_true]

theorem rr_getI {a n j ci i o : Nat} (hf : px_fetch k pc = some (.getfield i, 3)) (ho : px_own k = o) (hg : px_fr o i = some (ci, j)) (ht : px_ty ci j = 0) (hs : sh[a]? = some (ci, n)) (hj : j < n) (G : px_R xs L d k (pc + 3, ls, .int (iI (M a j)) :: st, (sh, M)) Q) : px_R xs L d k (pc, ls, .ref a :: st, (sh, M)) Q := by
  refine px_R_step (fun cf => px_step_of hf ?_) G
  simp [px_exec, px_getf, px_n, ho, hg, hs, hj, ht, px_dec]

theorem rr_getZ {a n j ci i o : Nat} (hf : px_fetch k pc = some (.getfield i, 3)) (ho : px_own k = o) (hg : px_fr o i = some (ci, j)) (ht : px_ty ci j = 3) (hs : sh[a]? = some (ci, n)) (hj : j < n) (G : px_R xs L d k (pc + 3, ls, .int (iI (M a j)) :: st, (sh, M)) Q) : px_R xs L d k (pc, ls, .ref a :: st, (sh, M)) Q := by
  refine px_R_step (fun cf => px_step_of hf ?_) G
  simp [px_exec, px_getf, px_n, ho, hg, hs, hj, ht, px_dec]

theorem rr_getL {a n j ci i o : Nat} (hf : px_fetch k pc = some (.getfield i, 3)) (ho : px_own k = o) (hg : px_fr o i = some (ci, j)) (ht : px_ty ci j = 1) (hs : sh[a]? = some (ci, n)) (hj : j < n) (G : px_R xs L d k (pc + 3, ls, .long (lI (M a j)) :: st, (sh, M)) Q) : px_R xs L d k (pc, ls, .ref a :: st, (sh, M)) Q := by
  refine px_R_step (fun cf => px_step_of hf ?_) G
  simp [px_exec, px_getf, px_n, ho, hg, hs, hj, ht, px_dec]

theorem rr_getR {a n j ci i o : Nat} (hf : px_fetch k pc = some (.getfield i, 3)) (ho : px_own k = o) (hg : px_fr o i = some (ci, j)) (ht : px_ty ci j = 2) (hs : sh[a]? = some (ci, n)) (hj : j < n) {q : Nat} (hv : M a j = (q : Int)) (G : px_R xs L d k (pc + 3, ls, .ref q :: st, (sh, M)) Q) : px_R xs L d k (pc, ls, .ref a :: st, (sh, M)) Q := by
  refine px_R_step (fun cf => px_step_of hf ?_) G
  simp [px_exec, px_getf, px_n, ho, hg, hs, hj, ht, px_dec, hv]

theorem rr_putI {a n j ci i o : Nat} {x : Int} (hf : px_fetch k pc = some (.putfield i, 3)) (ho : px_own k = o) (hg : px_fr o i = some (ci, j)) (hn : ((px_C ci).2.1 j).2.2.2 = false ∨ (px_isInit k = true ∧ o = ci)) (ht : px_ty ci j = 0) (hs : sh[a]? = some (ci, n)) (hj : j < n) (hx : rg x) (G : ∀ M2, M2 = px_up M a j (x) → px_R xs L d k (pc + 3, ls, st, (sh, M2)) Q) : px_R xs L d k (pc, ls, .int (iI x) :: .ref a :: st, (sh, M)) Q := by
  have hn2 : ((px_C ci).2.1 j).2.2.2 = true → px_isInit k = true ∧ o = ci := fun z => hn.elim (fun q => by rw [q] at z; cases z) id
  refine px_R_step (fun cf => px_step_of hf ?_) (G _ rfl)
  simp only [px_exec, px_putf, px_n, ho, hg, hs, if_true]
  rw [if_pos ⟨trivial, hj, hn2⟩]
  simp [px_enc, ht, iI_toInt hx]

theorem rr_putZ {a n j ci i o : Nat} {x : Int} (hf : px_fetch k pc = some (.putfield i, 3)) (ho : px_own k = o) (hg : px_fr o i = some (ci, j)) (hn : ((px_C ci).2.1 j).2.2.2 = false ∨ (px_isInit k = true ∧ o = ci)) (ht : px_ty ci j = 3) (hs : sh[a]? = some (ci, n)) (hj : j < n) (hx : x = 0 ∨ x = 1) (G : ∀ M2, M2 = px_up M a j (x) → px_R xs L d k (pc + 3, ls, st, (sh, M2)) Q) : px_R xs L d k (pc, ls, .int (iI x) :: .ref a :: st, (sh, M)) Q := by
  have hn2 : ((px_C ci).2.1 j).2.2.2 = true → px_isInit k = true ∧ o = ci := fun z => hn.elim (fun q => by rw [q] at z; cases z) id
  refine px_R_step (fun cf => px_step_of hf ?_) (G _ rfl)
  simp only [px_exec, px_putf, px_n, ho, hg, hs, if_true]
  rw [if_pos ⟨trivial, hj, hn2⟩]
  have hx2 : iI x = 0 ∨ iI x = 1 := by rcases hx with rfl | rfl; exact Or.inl rfl; exact Or.inr rfl
  simp [px_enc, ht, hx2, iI_toInt (show rg x by unfold rg; omega)]

theorem rr_putL {a n j ci i o : Nat} {x : Int} (hf : px_fetch k pc = some (.putfield i, 3)) (ho : px_own k = o) (hg : px_fr o i = some (ci, j)) (hn : ((px_C ci).2.1 j).2.2.2 = false ∨ (px_isInit k = true ∧ o = ci)) (ht : px_ty ci j = 1) (hs : sh[a]? = some (ci, n)) (hj : j < n) (hx : rl x) (G : ∀ M2, M2 = px_up M a j (x) → px_R xs L d k (pc + 3, ls, st, (sh, M2)) Q) : px_R xs L d k (pc, ls, .long (lI x) :: .ref a :: st, (sh, M)) Q := by
  have hn2 : ((px_C ci).2.1 j).2.2.2 = true → px_isInit k = true ∧ o = ci := fun z => hn.elim (fun q => by rw [q] at z; cases z) id
  refine px_R_step (fun cf => px_step_of hf ?_) (G _ rfl)
  simp only [px_exec, px_putf, px_n, ho, hg, hs, if_true]
  rw [if_pos ⟨trivial, hj, hn2⟩]
  simp [px_enc, ht, lI_toInt hx]

theorem rr_putR {a n j ci i o : Nat}  (hf : px_fetch k pc = some (.putfield i, 3)) (ho : px_own k = o) (hg : px_fr o i = some (ci, j)) (hn : ((px_C ci).2.1 j).2.2.2 = false ∨ (px_isInit k = true ∧ o = ci)) (ht : px_ty ci j = 2) (hs : sh[a]? = some (ci, n)) (hj : j < n) {q : Nat} (G : ∀ M2, M2 = px_up M a j ((q : Int)) → px_R xs L d k (pc + 3, ls, st, (sh, M2)) Q) : px_R xs L d k (pc, ls, .ref q :: .ref a :: st, (sh, M)) Q := by
  have hn2 : ((px_C ci).2.1 j).2.2.2 = true → px_isInit k = true ∧ o = ci := fun z => hn.elim (fun q => by rw [q] at z; cases z) id
  refine px_R_step (fun cf => px_step_of hf ?_) (G _ rfl)
  simp only [px_exec, px_putf, px_n, ho, hg, hs, if_true]
  rw [if_pos ⟨trivial, hj, hn2⟩]
  simp [px_enc, ht]

theorem rr_iald {a n : Nat} {i : Int} (hf : px_fetch k pc = some (.iaload, 1)) (hs : sh[a]? = some (10, n)) (hi : 0 ≤ i) (hi2 : i < n) (hi3 : rg i) (G : px_R xs L d k (pc + 1, ls, .int (iI (M a i.toNat)) :: st, (sh, M)) Q) : px_R xs L d k (pc, ls, .int (iI i) :: .ref a :: st, (sh, M)) Q := by
  have e := iI_toInt hi3
  refine px_R_step (fun cf => px_step_of hf ?_) G
  simp [px_exec, px_ald, px_n, hs, e, hi, hi2, px_ty, px_dec]

theorem rr_bald {a n : Nat} {i : Int} (hf : px_fetch k pc = some (.baload, 1)) (hs : sh[a]? = some (11, n)) (hi : 0 ≤ i) (hi2 : i < n) (hi3 : rg i) (G : px_R xs L d k (pc + 1, ls, .int (iI (M a i.toNat)) :: st, (sh, M)) Q) : px_R xs L d k (pc, ls, .int (iI i) :: .ref a :: st, (sh, M)) Q := by
  have e := iI_toInt hi3
  refine px_R_step (fun cf => px_step_of hf ?_) G
  simp [px_exec, px_ald, px_n, hs, e, hi, hi2, px_ty, px_dec]

theorem rr_lald {a n : Nat} {i : Int} (hf : px_fetch k pc = some (.laload, 1)) (hs : sh[a]? = some (12, n)) (hi : 0 ≤ i) (hi2 : i < n) (hi3 : rg i) (G : px_R xs L d k (pc + 1, ls, .long (lI (M a i.toNat)) :: st, (sh, M)) Q) : px_R xs L d k (pc, ls, .int (iI i) :: .ref a :: st, (sh, M)) Q := by
  have e := iI_toInt hi3
  refine px_R_step (fun cf => px_step_of hf ?_) G
  simp [px_exec, px_ald, px_n, hs, e, hi, hi2, px_ty, px_dec]

theorem rr_aald {a n kd : Nat} {i : Int} (hf : px_fetch k pc = some (.aaload, 1)) (hs : sh[a]? = some (kd, n)) (hi : 0 ≤ i) (hi2 : i < n) (hi3 : rg i) (hk : 13 ≤ kd ∧ kd ≤ 15) {q : Nat} (hv : M a i.toNat = (q : Int)) (G : px_R xs L d k (pc + 1, ls, .ref q :: st, (sh, M)) Q) : px_R xs L d k (pc, ls, .int (iI i) :: .ref a :: st, (sh, M)) Q := by
  have e := iI_toInt hi3
  refine px_R_step (fun cf => px_step_of hf ?_) G
  simp [px_exec, px_ald, px_n, hs, e, hi, hi2, hk.1, hk.2, px_ty_ref hk.1, px_dec, hv]

theorem rr_aaldN {a n kd : Nat} {i : Int} (hf : px_fetch k pc = some (.aaload, 1)) (hs : sh[a]? = some (kd, n)) (hi : 0 ≤ i) (hi2 : i < n) (hi3 : rg i) (hk : 13 ≤ kd ∧ kd ≤ 15) (hv : M a i.toNat < 0) (G : px_R xs L d k (pc + 1, ls, .null :: st, (sh, M)) Q) : px_R xs L d k (pc, ls, .int (iI i) :: .ref a :: st, (sh, M)) Q := by
  have e := iI_toInt hi3
  refine px_R_step (fun cf => px_step_of hf ?_) G
  simp [px_exec, px_ald, px_n, hs, e, hi, hi2, hk.1, hk.2, px_ty_ref hk.1, px_dec, hv]

theorem rr_iast {a n : Nat} {i : Int} {x : Int} (hf : px_fetch k pc = some (.iastore, 1)) (hs : sh[a]? = some (10, n)) (hi : 0 ≤ i) (hi2 : i < n) (hi3 : rg i) (hx : rg x) (G : ∀ M2, M2 = px_up M a i.toNat (x) → px_R xs L d k (pc + 1, ls, st, (sh, M2)) Q) : px_R xs L d k (pc, ls, .int (iI x) :: .int (iI i) :: .ref a :: st, (sh, M)) Q := by
  have e := iI_toInt hi3
  refine px_R_step (fun cf => px_step_of hf ?_) (G _ rfl)
  simp [px_exec, px_ast, px_n, hs, e, hi, hi2, px_ty, px_enc, iI_toInt hx]

theorem rr_bast {a n : Nat} {i : Int} {x : Int} (hf : px_fetch k pc = some (.bastore, 1)) (hs : sh[a]? = some (11, n)) (hi : 0 ≤ i) (hi2 : i < n) (hi3 : rg i) (hx : x = 0 ∨ x = 1) (G : ∀ M2, M2 = px_up M a i.toNat (x) → px_R xs L d k (pc + 1, ls, st, (sh, M2)) Q) : px_R xs L d k (pc, ls, .int (iI x) :: .int (iI i) :: .ref a :: st, (sh, M)) Q := by
  have e := iI_toInt hi3
  refine px_R_step (fun cf => px_step_of hf ?_) (G _ rfl)
  have hx2 : iI x = 0 ∨ iI x = 1 := by rcases hx with rfl | rfl; exact Or.inl rfl; exact Or.inr rfl
  simp [px_exec, px_ast, px_n, hs, e, hi, hi2, px_ty, px_enc, hx2, iI_toInt (show rg x by unfold rg; omega)]

theorem rr_last {a n : Nat} {i : Int} {x : Int} (hf : px_fetch k pc = some (.lastore, 1)) (hs : sh[a]? = some (12, n)) (hi : 0 ≤ i) (hi2 : i < n) (hi3 : rg i) (hx : rl x) (G : ∀ M2, M2 = px_up M a i.toNat (x) → px_R xs L d k (pc + 1, ls, st, (sh, M2)) Q) : px_R xs L d k (pc, ls, .long (lI x) :: .int (iI i) :: .ref a :: st, (sh, M)) Q := by
  have e := iI_toInt hi3
  refine px_R_step (fun cf => px_step_of hf ?_) (G _ rfl)
  simp [px_exec, px_ast, px_n, hs, e, hi, hi2, px_ty, px_enc, lI_toInt hx]

theorem rr_aast {a n : Nat} {i : Int} {kd q : Nat} (hf : px_fetch k pc = some (.aastore, 1)) (hs : sh[a]? = some (kd, n)) (hi : 0 ≤ i) (hi2 : i < n) (hi3 : rg i) (hk : 13 ≤ kd ∧ kd ≤ 15) (hq : px_eok kd (.ref q) sh = true) (G : ∀ M2, M2 = px_up M a i.toNat ((q : Int)) → px_R xs L d k (pc + 1, ls, st, (sh, M2)) Q) : px_R xs L d k (pc, ls, .ref q :: .int (iI i) :: .ref a :: st, (sh, M)) Q := by
  have e := iI_toInt hi3
  refine px_R_step (fun cf => px_step_of hf ?_) (G _ rfl)
  simp [px_exec, px_ast, px_n, hs, e, hi, hi2, hk.1, hk.2, hq, px_ty_ref hk.1, px_enc]

theorem rr_aastN {a n : Nat} {i : Int} {kd : Nat} (hf : px_fetch k pc = some (.aastore, 1)) (hs : sh[a]? = some (kd, n)) (hi : 0 ≤ i) (hi2 : i < n) (hi3 : rg i) (hk : 13 ≤ kd ∧ kd ≤ 15) (G : ∀ M2, M2 = px_up M a i.toNat (-1) → px_R xs L d k (pc + 1, ls, st, (sh, M2)) Q) : px_R xs L d k (pc, ls, .null :: .int (iI i) :: .ref a :: st, (sh, M)) Q := by
  have e := iI_toInt hi3
  refine px_R_step (fun cf => px_step_of hf ?_) (G _ rfl)
  simp [px_exec, px_ast, px_n, hs, e, hi, hi2, hk.1, hk.2, px_eok, px_ty_ref hk.1, px_enc]

theorem rr_alen {a n kd : Nat} (hf : px_fetch k pc = some (.arraylength, 1)) (hs : sh[a]? = some (kd, n)) (hk : 10 ≤ kd ∧ kd ≤ 15) (G : px_R xs L d k (pc + 1, ls, .int (iI (n : Int)) :: st, (sh, M)) Q) : px_R xs L d k (pc, ls, .ref a :: st, (sh, M)) Q := by
  refine px_R_step (fun cf => px_step_of hf ?_) G
  simp [px_exec, px_n, hs, hk.1, hk.2]

theorem rr_slen (hf : px_fetch k pc = some (.arraylength, 1)) (G : px_R xs L d k (pc + 1, ls, .int (iI (L : Int)) :: st, (sh, M)) Q) : px_R xs L d k (pc, ls, .retAddr 0 :: st, (sh, M)) Q := by
  refine px_R_step (fun cf => px_step_of hf ?_) G
  simp [px_exec, px_n]

theorem rr_sald {i : Int} (hf : px_fetch k pc = some (.iaload, 1)) (hi : 0 ≤ i) (hi2 : i < L) (hi3 : rg i) (G : px_R xs L d k (pc + 1, ls, .int (iI (xs i.toNat)) :: st, (sh, M)) Q) : px_R xs L d k (pc, ls, .int (iI i) :: .retAddr 0 :: st, (sh, M)) Q := by
  have e := iI_toInt hi3
  refine px_R_step (fun cf => px_step_of hf ?_) G
  simp [px_exec, px_n, e, hi, hi2]

theorem rr_newa {n : Int} {ty : ArrayType} (kd : Nat) (hf : px_fetch k pc = some (.newarray ty, 2)) (hk : (ty = .int ∧ kd = 10) ∨ (ty = .boolean ∧ kd = 11) ∨ (ty = .long ∧ kd = 12)) (hn : 0 ≤ n ∧ n ≤ 1000000) (G : ∀ M2, M2 = px_cl M sh.length (fun _ => 0) → px_R xs L d k (pc + 2, ls, .ref sh.length :: st, (sh ++ [(kd, n.toNat)], M2)) Q) : px_R xs L d k (pc, ls, .int (iI n) :: st, (sh, M)) Q := by
  have e : (iI n).toInt = n := iI_toInt (by unfold rg; omega)
  refine px_R_step (fun cf => px_step_of hf ?_) (G _ rfl)
  rcases hk with ⟨rfl, rfl⟩ | ⟨rfl, rfl⟩ | ⟨rfl, rfl⟩ <;> simp [px_exec, px_newa, px_n, e, hn.1, hn.2]

theorem rr_anewa {n : Int} {i o ci : Nat} (kd : Nat) (hf : px_fetch k pc = some (.anewarray i, 3)) (ho : px_own k = o) (hc : px_clc o i = some ci) (hk : (ci = 6 ∧ kd = 13) ∨ (ci = 1 ∧ kd = 14) ∨ (ci = 0 ∧ kd = 15)) (hn : 0 ≤ n ∧ n ≤ 1000000) (G : ∀ M2, M2 = px_cl M sh.length (fun _ => -1) → px_R xs L d k (pc + 3, ls, .ref sh.length :: st, (sh ++ [(kd, n.toNat)], M2)) Q) : px_R xs L d k (pc, ls, .int (iI n) :: st, (sh, M)) Q := by
  have e : (iI n).toInt = n := iI_toInt (by unfold rg; omega)
  refine px_R_step (fun cf => px_step_of hf ?_) (G _ rfl)
  rcases hk with ⟨rfl, rfl⟩ | ⟨rfl, rfl⟩ | ⟨rfl, rfl⟩ <;> simp [px_exec, px_newa, px_n, e, hn.1, hn.2, ho, hc]

theorem rr_new {i o ci nn : Nat} (hf : px_fetch k pc = some (.new i, 3)) (ho : px_own k = o) (hc : px_clc o i = some ci) (hk : ci < 10) (hn : (px_C ci).2.2 = nn) (G : ∀ M2, M2 = px_cl M sh.length (fun j => if px_ty ci j = 2 then -1 else 0) → px_R xs L d k (pc + 3, ls, .ref sh.length :: st, (sh ++ [(ci, nn)], M2)) Q) : px_R xs L d k (pc, ls, st, (sh, M)) Q := by
  refine px_R_step (fun cf => px_step_of hf ?_) (G _ rfl)
  simp [px_exec, px_n, ho, hc, hk, hn]

theorem rr_cS0 {i o t kd : Nat} {v : Option Value} {sh2 : List (Nat × Nat)} {M2 : Nat → Nat → Int} (hf : px_fetch k pc = some (.invokestatic i, 3)) (ho : px_own k = o) (hc : px_ct o i = some (kd, t, 0)) (hk : kd = 3 ∨ kd = 4) (hr : px_room r = true) (C : px_Cl xs L d t [] (sh, M) v (sh2, M2)) (G : px_R xs L d k (pc + 3, ls, v.toList ++ r, (sh2, M2)) Q) : px_R xs L d k (pc, ls, r, (sh, M)) Q := by
  refine px_R_callS C (fun cf hcf => px_step_of hf ?_) G
  rcases hk with rfl | rfl <;> simp [px_exec, px_call, px_n, ho, hc, hr, hcf]

theorem rr_cI0 {i o t kd b : Nat} {sh2 : List (Nat × Nat)} {M2 : Nat → Nat → Int} (hf : px_fetch k pc = some (.invokespecial i, 3)) (ho : px_own k = o) (hc : px_ct o i = some (kd, t, 0)) (hk : kd = 5 ∨ kd = 6) (hr : px_room r = true) (C : px_Cl xs L d t (.ref b :: []) (sh, M) none (sh2, M2)) (G : px_R xs L d k (pc + 3, ls, r, (sh2, M2)) Q) : px_R xs L d k (pc, ls, .ref b :: r, (sh, M)) Q := by
  refine px_R_callS C (fun cf hcf => px_step_of hf ?_) G
  rcases hk with rfl | rfl <;> simp [px_exec, px_call, px_n, ho, hc, hr, hcf]

theorem rr_cV0 {i o t b kb nb : Nat} {v : Option Value} {sh2 : List (Nat × Nat)} {M2 : Nat → Nat → Int} (hf : px_fetch k pc = some (.invokevirtual i, 3)) (ho : px_own k = o) (hc : px_ct o i = some (7, t, 0)) (hb : sh[b]? = some (kb, nb)) (ht : px_own t = kb) (hk : kb < 10) (hr : px_room r = true) (C : px_Cl xs L d t (.ref b :: []) (sh, M) v (sh2, M2)) (G : px_R xs L d k (pc + 3, ls, v.toList ++ r, (sh2, M2)) Q) : px_R xs L d k (pc, ls, .ref b :: r, (sh, M)) Q := by
  refine px_R_callS C (fun cf hcf => px_step_of hf ?_) G
  simp [px_exec, px_call, px_n, ho, hc, hr, hcf, hb, ht, hk]

theorem rr_cT0 {i o t b : Nat} {v : Option Value} {sh2 : List (Nat × Nat)} {M2 : Nat → Nat → Int} (hf : px_fetch k pc = some (.invokevirtual i, 3)) (ho : px_own k = o) (hc : px_ct o i = some (7, t, 0)) (ht : px_own t = 20) (hb : 1 ≤ b ∧ b ≤ 14) (hr : px_room r = true) (C : px_Cl xs L d t (.retAddr b :: []) (sh, M) v (sh2, M2)) (G : px_R xs L d k (pc + 3, ls, v.toList ++ r, (sh2, M2)) Q) : px_R xs L d k (pc, ls, .retAddr b :: r, (sh, M)) Q := by
  refine px_R_callS C (fun cf hcf => px_step_of hf ?_) G
  simp [px_exec, px_call, px_n, ho, hc, hr, hcf, ht, hb.1, hb.2]

theorem rr_cS1 {i o t kd : Nat} {a0 : Value} {v : Option Value} {sh2 : List (Nat × Nat)} {M2 : Nat → Nat → Int} (hf : px_fetch k pc = some (.invokestatic i, 3)) (ho : px_own k = o) (hc : px_ct o i = some (kd, t, 1)) (hk : kd = 3 ∨ kd = 4) (hr : px_room r = true) (C : px_Cl xs L d t [a0] (sh, M) v (sh2, M2)) (G : px_R xs L d k (pc + 3, ls, v.toList ++ r, (sh2, M2)) Q) : px_R xs L d k (pc, ls, a0 :: r, (sh, M)) Q := by
  refine px_R_callS C (fun cf hcf => px_step_of hf ?_) G
  rcases hk with rfl | rfl <;> simp [px_exec, px_call, px_n, ho, hc, hr, hcf]

theorem rr_cI1 {i o t kd b : Nat} {a0 : Value} {sh2 : List (Nat × Nat)} {M2 : Nat → Nat → Int} (hf : px_fetch k pc = some (.invokespecial i, 3)) (ho : px_own k = o) (hc : px_ct o i = some (kd, t, 1)) (hk : kd = 5 ∨ kd = 6) (hr : px_room r = true) (C : px_Cl xs L d t (.ref b :: [a0]) (sh, M) none (sh2, M2)) (G : px_R xs L d k (pc + 3, ls, r, (sh2, M2)) Q) : px_R xs L d k (pc, ls, a0 :: .ref b :: r, (sh, M)) Q := by
  refine px_R_callS C (fun cf hcf => px_step_of hf ?_) G
  rcases hk with rfl | rfl <;> simp [px_exec, px_call, px_n, ho, hc, hr, hcf]

theorem rr_cV1 {i o t b kb nb : Nat} {a0 : Value} {v : Option Value} {sh2 : List (Nat × Nat)} {M2 : Nat → Nat → Int} (hf : px_fetch k pc = some (.invokevirtual i, 3)) (ho : px_own k = o) (hc : px_ct o i = some (7, t, 1)) (hb : sh[b]? = some (kb, nb)) (ht : px_own t = kb) (hk : kb < 10) (hr : px_room r = true) (C : px_Cl xs L d t (.ref b :: [a0]) (sh, M) v (sh2, M2)) (G : px_R xs L d k (pc + 3, ls, v.toList ++ r, (sh2, M2)) Q) : px_R xs L d k (pc, ls, a0 :: .ref b :: r, (sh, M)) Q := by
  refine px_R_callS C (fun cf hcf => px_step_of hf ?_) G
  simp [px_exec, px_call, px_n, ho, hc, hr, hcf, hb, ht, hk]

theorem rr_cT1 {i o t b : Nat} {a0 : Value} {v : Option Value} {sh2 : List (Nat × Nat)} {M2 : Nat → Nat → Int} (hf : px_fetch k pc = some (.invokevirtual i, 3)) (ho : px_own k = o) (hc : px_ct o i = some (7, t, 1)) (ht : px_own t = 20) (hb : 1 ≤ b ∧ b ≤ 14) (hr : px_room r = true) (C : px_Cl xs L d t (.retAddr b :: [a0]) (sh, M) v (sh2, M2)) (G : px_R xs L d k (pc + 3, ls, v.toList ++ r, (sh2, M2)) Q) : px_R xs L d k (pc, ls, a0 :: .retAddr b :: r, (sh, M)) Q := by
  refine px_R_callS C (fun cf hcf => px_step_of hf ?_) G
  simp [px_exec, px_call, px_n, ho, hc, hr, hcf, ht, hb.1, hb.2]

theorem rr_cS2 {i o t kd : Nat} {a0 a1 : Value} {v : Option Value} {sh2 : List (Nat × Nat)} {M2 : Nat → Nat → Int} (hf : px_fetch k pc = some (.invokestatic i, 3)) (ho : px_own k = o) (hc : px_ct o i = some (kd, t, 2)) (hk : kd = 3 ∨ kd = 4) (hr : px_room r = true) (C : px_Cl xs L d t [a0, a1] (sh, M) v (sh2, M2)) (G : px_R xs L d k (pc + 3, ls, v.toList ++ r, (sh2, M2)) Q) : px_R xs L d k (pc, ls, a1 :: a0 :: r, (sh, M)) Q := by
  refine px_R_callS C (fun cf hcf => px_step_of hf ?_) G
  rcases hk with rfl | rfl <;> simp [px_exec, px_call, px_n, ho, hc, hr, hcf]

theorem rr_cI2 {i o t kd b : Nat} {a0 a1 : Value} {sh2 : List (Nat × Nat)} {M2 : Nat → Nat → Int} (hf : px_fetch k pc = some (.invokespecial i, 3)) (ho : px_own k = o) (hc : px_ct o i = some (kd, t, 2)) (hk : kd = 5 ∨ kd = 6) (hr : px_room r = true) (C : px_Cl xs L d t (.ref b :: [a0, a1]) (sh, M) none (sh2, M2)) (G : px_R xs L d k (pc + 3, ls, r, (sh2, M2)) Q) : px_R xs L d k (pc, ls, a1 :: a0 :: .ref b :: r, (sh, M)) Q := by
  refine px_R_callS C (fun cf hcf => px_step_of hf ?_) G
  rcases hk with rfl | rfl <;> simp [px_exec, px_call, px_n, ho, hc, hr, hcf]

theorem rr_cV2 {i o t b kb nb : Nat} {a0 a1 : Value} {v : Option Value} {sh2 : List (Nat × Nat)} {M2 : Nat → Nat → Int} (hf : px_fetch k pc = some (.invokevirtual i, 3)) (ho : px_own k = o) (hc : px_ct o i = some (7, t, 2)) (hb : sh[b]? = some (kb, nb)) (ht : px_own t = kb) (hk : kb < 10) (hr : px_room r = true) (C : px_Cl xs L d t (.ref b :: [a0, a1]) (sh, M) v (sh2, M2)) (G : px_R xs L d k (pc + 3, ls, v.toList ++ r, (sh2, M2)) Q) : px_R xs L d k (pc, ls, a1 :: a0 :: .ref b :: r, (sh, M)) Q := by
  refine px_R_callS C (fun cf hcf => px_step_of hf ?_) G
  simp [px_exec, px_call, px_n, ho, hc, hr, hcf, hb, ht, hk]

theorem rr_cS3 {i o t kd : Nat} {a0 a1 a2 : Value} {v : Option Value} {sh2 : List (Nat × Nat)} {M2 : Nat → Nat → Int} (hf : px_fetch k pc = some (.invokestatic i, 3)) (ho : px_own k = o) (hc : px_ct o i = some (kd, t, 3)) (hk : kd = 3 ∨ kd = 4) (hr : px_room r = true) (C : px_Cl xs L d t [a0, a1, a2] (sh, M) v (sh2, M2)) (G : px_R xs L d k (pc + 3, ls, v.toList ++ r, (sh2, M2)) Q) : px_R xs L d k (pc, ls, a2 :: a1 :: a0 :: r, (sh, M)) Q := by
  refine px_R_callS C (fun cf hcf => px_step_of hf ?_) G
  rcases hk with rfl | rfl <;> simp [px_exec, px_call, px_n, ho, hc, hr, hcf]

theorem rr_cI3 {i o t kd b : Nat} {a0 a1 a2 : Value} {sh2 : List (Nat × Nat)} {M2 : Nat → Nat → Int} (hf : px_fetch k pc = some (.invokespecial i, 3)) (ho : px_own k = o) (hc : px_ct o i = some (kd, t, 3)) (hk : kd = 5 ∨ kd = 6) (hr : px_room r = true) (C : px_Cl xs L d t (.ref b :: [a0, a1, a2]) (sh, M) none (sh2, M2)) (G : px_R xs L d k (pc + 3, ls, r, (sh2, M2)) Q) : px_R xs L d k (pc, ls, a2 :: a1 :: a0 :: .ref b :: r, (sh, M)) Q := by
  refine px_R_callS C (fun cf hcf => px_step_of hf ?_) G
  rcases hk with rfl | rfl <;> simp [px_exec, px_call, px_n, ho, hc, hr, hcf]

theorem rr_cV3 {i o t b kb nb : Nat} {a0 a1 a2 : Value} {v : Option Value} {sh2 : List (Nat × Nat)} {M2 : Nat → Nat → Int} (hf : px_fetch k pc = some (.invokevirtual i, 3)) (ho : px_own k = o) (hc : px_ct o i = some (7, t, 3)) (hb : sh[b]? = some (kb, nb)) (ht : px_own t = kb) (hk : kb < 10) (hr : px_room r = true) (C : px_Cl xs L d t (.ref b :: [a0, a1, a2]) (sh, M) v (sh2, M2)) (G : px_R xs L d k (pc + 3, ls, v.toList ++ r, (sh2, M2)) Q) : px_R xs L d k (pc, ls, a2 :: a1 :: a0 :: .ref b :: r, (sh, M)) Q := by
  refine px_R_callS C (fun cf hcf => px_step_of hf ?_) G
  simp [px_exec, px_call, px_n, ho, hc, hr, hcf, hb, ht, hk]

theorem rr_cS4 {i o t kd : Nat} {a0 a1 a2 a3 : Value} {v : Option Value} {sh2 : List (Nat × Nat)} {M2 : Nat → Nat → Int} (hf : px_fetch k pc = some (.invokestatic i, 3)) (ho : px_own k = o) (hc : px_ct o i = some (kd, t, 4)) (hk : kd = 3 ∨ kd = 4) (hr : px_room r = true) (C : px_Cl xs L d t [a0, a1, a2, a3] (sh, M) v (sh2, M2)) (G : px_R xs L d k (pc + 3, ls, v.toList ++ r, (sh2, M2)) Q) : px_R xs L d k (pc, ls, a3 :: a2 :: a1 :: a0 :: r, (sh, M)) Q := by
  refine px_R_callS C (fun cf hcf => px_step_of hf ?_) G
  rcases hk with rfl | rfl <;> simp [px_exec, px_call, px_n, ho, hc, hr, hcf]

theorem rr_cI4 {i o t kd b : Nat} {a0 a1 a2 a3 : Value} {sh2 : List (Nat × Nat)} {M2 : Nat → Nat → Int} (hf : px_fetch k pc = some (.invokespecial i, 3)) (ho : px_own k = o) (hc : px_ct o i = some (kd, t, 4)) (hk : kd = 5 ∨ kd = 6) (hr : px_room r = true) (C : px_Cl xs L d t (.ref b :: [a0, a1, a2, a3]) (sh, M) none (sh2, M2)) (G : px_R xs L d k (pc + 3, ls, r, (sh2, M2)) Q) : px_R xs L d k (pc, ls, a3 :: a2 :: a1 :: a0 :: .ref b :: r, (sh, M)) Q := by
  refine px_R_callS C (fun cf hcf => px_step_of hf ?_) G
  rcases hk with rfl | rfl <;> simp [px_exec, px_call, px_n, ho, hc, hr, hcf]

theorem rr_cV4 {i o t b kb nb : Nat} {a0 a1 a2 a3 : Value} {v : Option Value} {sh2 : List (Nat × Nat)} {M2 : Nat → Nat → Int} (hf : px_fetch k pc = some (.invokevirtual i, 3)) (ho : px_own k = o) (hc : px_ct o i = some (7, t, 4)) (hb : sh[b]? = some (kb, nb)) (ht : px_own t = kb) (hk : kb < 10) (hr : px_room r = true) (C : px_Cl xs L d t (.ref b :: [a0, a1, a2, a3]) (sh, M) v (sh2, M2)) (G : px_R xs L d k (pc + 3, ls, v.toList ++ r, (sh2, M2)) Q) : px_R xs L d k (pc, ls, a3 :: a2 :: a1 :: a0 :: .ref b :: r, (sh, M)) Q := by
  refine px_R_callS C (fun cf hcf => px_step_of hf ?_) G
  simp [px_exec, px_call, px_n, ho, hc, hr, hcf, hb, ht, hk]

theorem rr_cS5 {i o t kd : Nat} {a0 a1 a2 a3 a4 : Value} {v : Option Value} {sh2 : List (Nat × Nat)} {M2 : Nat → Nat → Int} (hf : px_fetch k pc = some (.invokestatic i, 3)) (ho : px_own k = o) (hc : px_ct o i = some (kd, t, 5)) (hk : kd = 3 ∨ kd = 4) (hr : px_room r = true) (C : px_Cl xs L d t [a0, a1, a2, a3, a4] (sh, M) v (sh2, M2)) (G : px_R xs L d k (pc + 3, ls, v.toList ++ r, (sh2, M2)) Q) : px_R xs L d k (pc, ls, a4 :: a3 :: a2 :: a1 :: a0 :: r, (sh, M)) Q := by
  refine px_R_callS C (fun cf hcf => px_step_of hf ?_) G
  rcases hk with rfl | rfl <;> simp [px_exec, px_call, px_n, ho, hc, hr, hcf]

theorem rr_cI5 {i o t kd b : Nat} {a0 a1 a2 a3 a4 : Value} {sh2 : List (Nat × Nat)} {M2 : Nat → Nat → Int} (hf : px_fetch k pc = some (.invokespecial i, 3)) (ho : px_own k = o) (hc : px_ct o i = some (kd, t, 5)) (hk : kd = 5 ∨ kd = 6) (hr : px_room r = true) (C : px_Cl xs L d t (.ref b :: [a0, a1, a2, a3, a4]) (sh, M) none (sh2, M2)) (G : px_R xs L d k (pc + 3, ls, r, (sh2, M2)) Q) : px_R xs L d k (pc, ls, a4 :: a3 :: a2 :: a1 :: a0 :: .ref b :: r, (sh, M)) Q := by
  refine px_R_callS C (fun cf hcf => px_step_of hf ?_) G
  rcases hk with rfl | rfl <;> simp [px_exec, px_call, px_n, ho, hc, hr, hcf]

theorem rr_cV5 {i o t b kb nb : Nat} {a0 a1 a2 a3 a4 : Value} {v : Option Value} {sh2 : List (Nat × Nat)} {M2 : Nat → Nat → Int} (hf : px_fetch k pc = some (.invokevirtual i, 3)) (ho : px_own k = o) (hc : px_ct o i = some (7, t, 5)) (hb : sh[b]? = some (kb, nb)) (ht : px_own t = kb) (hk : kb < 10) (hr : px_room r = true) (C : px_Cl xs L d t (.ref b :: [a0, a1, a2, a3, a4]) (sh, M) v (sh2, M2)) (G : px_R xs L d k (pc + 3, ls, v.toList ++ r, (sh2, M2)) Q) : px_R xs L d k (pc, ls, a4 :: a3 :: a2 :: a1 :: a0 :: .ref b :: r, (sh, M)) Q := by
  refine px_R_callS C (fun cf hcf => px_step_of hf ?_) G
  simp [px_exec, px_call, px_n, ho, hc, hr, hcf, hb, ht, hk]

theorem rr_cS6 {i o t kd : Nat} {a0 a1 a2 a3 a4 a5 : Value} {v : Option Value} {sh2 : List (Nat × Nat)} {M2 : Nat → Nat → Int} (hf : px_fetch k pc = some (.invokestatic i, 3)) (ho : px_own k = o) (hc : px_ct o i = some (kd, t, 6)) (hk : kd = 3 ∨ kd = 4) (hr : px_room r = true) (C : px_Cl xs L d t [a0, a1, a2, a3, a4, a5] (sh, M) v (sh2, M2)) (G : px_R xs L d k (pc + 3, ls, v.toList ++ r, (sh2, M2)) Q) : px_R xs L d k (pc, ls, a5 :: a4 :: a3 :: a2 :: a1 :: a0 :: r, (sh, M)) Q := by
  refine px_R_callS C (fun cf hcf => px_step_of hf ?_) G
  rcases hk with rfl | rfl <;> simp [px_exec, px_call, px_n, ho, hc, hr, hcf]

theorem rr_cI6 {i o t kd b : Nat} {a0 a1 a2 a3 a4 a5 : Value} {sh2 : List (Nat × Nat)} {M2 : Nat → Nat → Int} (hf : px_fetch k pc = some (.invokespecial i, 3)) (ho : px_own k = o) (hc : px_ct o i = some (kd, t, 6)) (hk : kd = 5 ∨ kd = 6) (hr : px_room r = true) (C : px_Cl xs L d t (.ref b :: [a0, a1, a2, a3, a4, a5]) (sh, M) none (sh2, M2)) (G : px_R xs L d k (pc + 3, ls, r, (sh2, M2)) Q) : px_R xs L d k (pc, ls, a5 :: a4 :: a3 :: a2 :: a1 :: a0 :: .ref b :: r, (sh, M)) Q := by
  refine px_R_callS C (fun cf hcf => px_step_of hf ?_) G
  rcases hk with rfl | rfl <;> simp [px_exec, px_call, px_n, ho, hc, hr, hcf]

theorem rr_cS7 {i o t kd : Nat} {a0 a1 a2 a3 a4 a5 a6 : Value} {v : Option Value} {sh2 : List (Nat × Nat)} {M2 : Nat → Nat → Int} (hf : px_fetch k pc = some (.invokestatic i, 3)) (ho : px_own k = o) (hc : px_ct o i = some (kd, t, 7)) (hk : kd = 3 ∨ kd = 4) (hr : px_room r = true) (C : px_Cl xs L d t [a0, a1, a2, a3, a4, a5, a6] (sh, M) v (sh2, M2)) (G : px_R xs L d k (pc + 3, ls, v.toList ++ r, (sh2, M2)) Q) : px_R xs L d k (pc, ls, a6 :: a5 :: a4 :: a3 :: a2 :: a1 :: a0 :: r, (sh, M)) Q := by
  refine px_R_callS C (fun cf hcf => px_step_of hf ?_) G
  rcases hk with rfl | rfl <;> simp [px_exec, px_call, px_n, ho, hc, hr, hcf]

theorem rr_cI7 {i o t kd b : Nat} {a0 a1 a2 a3 a4 a5 a6 : Value} {sh2 : List (Nat × Nat)} {M2 : Nat → Nat → Int} (hf : px_fetch k pc = some (.invokespecial i, 3)) (ho : px_own k = o) (hc : px_ct o i = some (kd, t, 7)) (hk : kd = 5 ∨ kd = 6) (hr : px_room r = true) (C : px_Cl xs L d t (.ref b :: [a0, a1, a2, a3, a4, a5, a6]) (sh, M) none (sh2, M2)) (G : px_R xs L d k (pc + 3, ls, r, (sh2, M2)) Q) : px_R xs L d k (pc, ls, a6 :: a5 :: a4 :: a3 :: a2 :: a1 :: a0 :: .ref b :: r, (sh, M)) Q := by
  refine px_R_callS C (fun cf hcf => px_step_of hf ?_) G
  rcases hk with rfl | rfl <;> simp [px_exec, px_call, px_n, ho, hc, hr, hcf]

theorem rr_objI {i o b n : Nat} (hf : px_fetch k pc = some (.invokespecial i, 3)) (ho : px_own k = o) (hc : px_ct o i = some (0, 0, n)) (hr : px_room r = true) (G : px_R xs L d k (pc + 3, ls, r, (sh, M)) Q) : px_R xs L d k (pc, ls, .ref b :: r, (sh, M)) Q := by
  refine px_R_step (fun cf => px_step_of hf ?_) G
  simp [px_exec, px_call, px_n, ho, hc, hr]

theorem rr_copy {i o a0 a1 n0 n1 t n : Nat} {m dp sp : Int} (hf : px_fetch k pc = some (.invokestatic i, 3)) (ho : px_own k = o) (hc : px_ct o i = some (1, t, n)) (hr : px_room r = true) (h0 : sh[a0]? = some (10, n0)) (h1 : sh[a1]? = some (10, n1)) (q1 : 0 ≤ sp) (q2 : 0 ≤ dp) (q3 : 0 ≤ m) (q4 : sp + m ≤ n0) (q5 : dp + m ≤ n1) (q6 : rg sp ∧ rg dp ∧ rg m) (G : ∀ M2, M2 = px_copy M a0 sp.toNat a1 dp.toNat m.toNat → px_R xs L d k (pc + 3, ls, r, (sh, M2)) Q) : px_R xs L d k (pc, ls, .int (iI m) :: .int (iI dp) :: .ref a1 :: .int (iI sp) :: .ref a0 :: r, (sh, M)) Q := by
  refine px_R_step (fun cf => px_step_of hf ?_) (G _ rfl)
  simp [px_exec, px_call, px_n, ho, hc, hr, h0, h1, iI_toInt q6.1, iI_toInt q6.2.1, iI_toInt q6.2.2, q1, q2, q3, q4, q5]

theorem iI_max {x y : Int} (hx : rg x) (hy : rg y) : (if iI x < iI y then iI y else iI x) = iI (max x y) := by
  by_cases h : x < y
  · rw [if_pos ((iI_lt hx hy).mpr h), Int.max_def, if_pos (by omega)]
  · rw [if_neg (fun z => h ((iI_lt hx hy).mp z)), Int.max_def]; split
    · congr 1; omega
    · rfl
theorem iI_min {x y : Int} (hx : rg x) (hy : rg y) : (if iI y < iI x then iI y else iI x) = iI (min x y) := by
  by_cases h : y < x
  · rw [if_pos ((iI_lt hy hx).mpr h), Int.min_def, if_neg (by omega)]
  · rw [if_neg (fun z => h ((iI_lt hy hx).mp z)), Int.min_def, if_pos (by omega)]
theorem iI_abs {x : Int} (hx : rg x) : (if 0 ≤ iI x then iI x else 0 - iI x) = iI (x.natAbs : Int) := by
  have hq : (0 : Int32) ≤ iI x ↔ 0 ≤ x := iI_le rg_0 hx
  by_cases h : 0 ≤ x
  · rw [if_pos (hq.mpr h)]; congr 1; omega
  · rw [if_neg (fun z => h (hq.mp z)), iI_0, iI_sub]; congr 1; omega

theorem rr_max {i o n : Nat} {x y : Int} (hf : px_fetch k pc = some (.invokestatic i, 3)) (ho : px_own k = o) (hc : px_ct o i = some (2, 0, n)) (hr : px_room r = true) (hx : rg x) (hy : rg y) (G : px_R xs L d k (pc + 3, ls, .int (iI (max x y)) :: r, (sh, M)) Q) : px_R xs L d k (pc, ls, .int (iI y) :: .int (iI x) :: r, (sh, M)) Q := by
  refine px_R_step (fun cf => px_step_of hf ?_) G
  simp [px_exec, px_call, px_n, ho, hc, hr, iI_max hx hy]

theorem rr_min {i o n : Nat} {x y : Int} (hf : px_fetch k pc = some (.invokestatic i, 3)) (ho : px_own k = o) (hc : px_ct o i = some (2, 1, n)) (hr : px_room r = true) (hx : rg x) (hy : rg y) (G : px_R xs L d k (pc + 3, ls, .int (iI (min x y)) :: r, (sh, M)) Q) : px_R xs L d k (pc, ls, .int (iI y) :: .int (iI x) :: r, (sh, M)) Q := by
  refine px_R_step (fun cf => px_step_of hf ?_) G
  simp [px_exec, px_call, px_n, ho, hc, hr, iI_min hx hy]

theorem rr_abs {i o n : Nat} {x : Int} (hf : px_fetch k pc = some (.invokestatic i, 3)) (ho : px_own k = o) (hc : px_ct o i = some (2, 2, n)) (hr : px_room r = true) (hx : rg x) (G : px_R xs L d k (pc + 3, ls, .int (iI (x.natAbs : Int)) :: r, (sh, M)) Q) : px_R xs L d k (pc, ls, .int (iI x) :: r, (sh, M)) Q := by
  refine px_R_step (fun cf => px_step_of hf ?_) G
  simp only [px_exec, px_call, px_n, ho, hc, hr, iI_abs hx, if_true, if_false, show ¬ (2 : Nat) = 0 by decide, show ¬ (2 : Nat) = 1 by decide, and_self]

theorem rr_iret {x : Int} (hf : px_fetch k pc = some (.ireturn, 1)) (hr : px_ret k = some .int) (hq : Q (some (.int (iI x))) (sh, M)) : px_R xs L d k (pc, ls, [.int (iI x)], (sh, M)) Q := by
  refine px_R_ret (fun cf => px_step_of hf ?_) hq
  simp [px_exec, hr, px_fin]

theorem rr_zret {x : Int} (hf : px_fetch k pc = some (.ireturn, 1)) (hr : px_ret k = some .boolean) (hx : x = 0 ∨ x = 1) (hq : Q (some (.int (iI x))) (sh, M)) : px_R xs L d k (pc, ls, [.int (iI x)], (sh, M)) Q := by
  refine px_R_ret (fun cf => px_step_of hf ?_) hq
  have hx2 : iI x = 0 ∨ iI x = 1 := by rcases hx with rfl | rfl; exact Or.inl rfl; exact Or.inr rfl
  simp [px_exec, hr, px_fin, hx2]

theorem rr_lret {x : Int} (hf : px_fetch k pc = some (.lreturn, 1)) (hr : px_ret k = some .long) (hq : Q (some (.long (lI x))) (sh, M)) : px_R xs L d k (pc, ls, [.long (lI x)], (sh, M)) Q := by
  refine px_R_ret (fun cf => px_step_of hf ?_) hq
  simp [px_exec, hr, px_fin]

theorem rr_aret {x : Nat} {C : String} (hf : px_fetch k pc = some (.areturn, 1)) (hr : px_ret k = some (.object C)) (hq : Q (some (.ref x)) (sh, M)) : px_R xs L d k (pc, ls, [.ref x], (sh, M)) Q := by
  refine px_R_ret (fun cf => px_step_of hf ?_) hq
  simp [px_exec, hr, px_fin]

theorem rr_vret (hf : px_fetch k pc = some (.return_, 1)) (hr : px_ret k = none) (hq : Q none (sh, M)) : px_R xs L d k (pc, ls, [], (sh, M)) Q := by
  refine px_R_ret (fun cf => px_step_of hf ?_) hq
  simp [px_exec, hr]

end RR

/-! THE PURE MACHINE: cells by number, contents as integers; refs are cell numbers; .retAddr n stands for a cell that was there before (0 the script, k+1 a text constant, 100+k its bytes, 999 a static) -/
def iI (x : Int) : Int32 := Int32.ofInt x
def lI (x : Int) : Int64 := Int64.ofInt x
abbrev px_H : Type := List (Nat × Nat) × (Nat → Nat → Int)
def px_ty (kd j : Nat) : Nat := if kd < 10 then (px_tyL.getD kd []).getD j 0 else if kd = 10 then 0 else if kd = 11 then 3 else if kd = 12 then 1 else 2
def px_dec (t : Nat) (x : Int) : Value := if t = 1 then .long (lI x) else if t = 2 then (if x < 0 then .null else .ref x.toNat) else .int (iI x)
def px_enc (t : Nat) (v : Value) : Option Int := match v with
  | .int z => if t = 0 then some z.toInt else if t = 3 then (if z = 0 ∨ z = 1 then some z.toInt else none) else none
  | .long z => if t = 1 then some z.toInt else none
  | .null => if t = 2 then some (-1) else none
  | .ref a => if t = 2 then some (a : Int) else none
  | _ => none
def px_up (M : Nat → Nat → Int) (a j : Nat) (x : Int) : Nat → Nat → Int := fun a' j' => if a' = a then (if j' = j then x else M a' j') else M a' j'
def px_cl (M : Nat → Nat → Int) (a : Nat) (f : Nat → Int) : Nat → Nat → Int := fun a' j' => if a' = a then f j' else M a' j'
def px_fr (o i : Nat) : Option (Nat × Nat) := (px_ftb.find? (fun q => q.1 == o && q.2.1 == i)).map (fun q => (q.2.2.1, q.2.2.2.1))
def px_ct (o i : Nat) : Option (Nat × Nat × Nat) := (px_ctb.find? (fun q => q.1 == o && q.2.1 == i)).map (fun q => (q.2.2.1, q.2.2.2.1, q.2.2.2.2.1))
def px_kc (o i : Nat) : Option Int := (px_ktb.find? (fun q => q.1 == o && q.2.1 == i)).map (fun q => q.2.2.1)
def px_k2c (o i : Nat) : Option Int := (px_k2tb.find? (fun q => q.1 == o && q.2.1 == i)).map (fun q => q.2.2.1)
def px_clc (o i : Nat) : Option Nat := (px_cltb.find? (fun q => q.1 == o && q.2.1 == i)).map (fun q => q.2.2.1)
def px_sc (o i : Nat) : Option Nat := px_stb.findIdx? (fun q => q.1 == o && q.2.1 == i)
def px_txt (k : Nat) : List Char := ((px_stb[k]?).map (fun q => q.2.2.1.toList)).getD []
def px_own (k : Nat) : Nat := ((px_mt[k]?).map (fun q => q.2.2.2.2)).getD 99
def px_code (k : Nat) : ByteArray := ((px_mt[k]?).map (fun q => q.2.1)).getD ByteArray.empty
def px_maxL (k : Nat) : Nat := ((px_mt[k]?).map (fun q => q.2.2.1)).getD 0
def px_ret (k : Nat) : Option FieldType := ((px_mt[k]?).map (fun q => q.2.2.2.1)).getD none
def px_y (k : Nat) : MethodName := ((px_mt[k]?).map (fun q => q.1)).getD ⟨"", "", ""⟩
def px_isInit (k : Nat) : Bool := (px_y k).name == "<init>"
def px_fetch (k pc : Nat) : Option (Instr × Nat) := match decode (px_code k) pc with
  | .ok x => some x
  | .error _ => none
/-- junk: an entry of the locals that nobody may read -/
def px_jk : Value := .float 0
def px_set (ls : List Value) (i : Nat) (v : Value) : List Value := match i with
  | 0 => ls.set 0 v
  | j + 1 => (match ls[j]? with
    | some (.long _) => (ls.set j px_jk).set (j + 1) v
    | _ => ls.set (j + 1) v)
def px_set2 (ls : List Value) (i : Nat) (v : Value) : List Value := (px_set ls i v).set (i + 1) px_jk
abbrev px_S : Type := Nat × List Value × List Value × px_H
abbrev px_O : Type := Option (px_S ⊕ (Option Value × px_H))
def px_n (pc : Nat) (ls st : List Value) (h : px_H) : px_O := some (.inl (pc, ls, st, h))
def px_tg (pc : Nat) (off : Int) : Nat := ((pc : Int) + off).toNat
def px_br (c : Prop) [Decidable c] (pc : Nat) (off : Int) (len : Nat) (ls st : List Value) (h : px_H) : px_O :=
  if 0 ≤ (pc : Int) + off then (if c then px_n (px_tg pc off) ls st h else px_n (pc + len) ls st h) else none
def px_room (st : List Value) : Bool := (st.map fun v => v.category).sum ≤ 8
/-- which values an entry of the locals may hold, by load instruction -/
def px_ldi (ls : List Value) (i pc : Nat) (st : List Value) (h : px_H) : px_O := match ls[i]? with
  | some (.int x) => px_n pc ls (.int x :: st) h
  | _ => none
def px_ldl (ls : List Value) (i pc : Nat) (st : List Value) (h : px_H) : px_O := match ls[i]? with
  | some (.long x) => px_n pc ls (.long x :: st) h
  | _ => none
def px_lda (ls : List Value) (i pc : Nat) (st : List Value) (h : px_H) : px_O := match ls[i]? with
  | some (.ref x) => px_n pc ls (.ref x :: st) h
  | some .null => px_n pc ls (.null :: st) h
  | some (.retAddr x) => if x = 999 then none else px_n pc ls (.retAddr x :: st) h
  | _ => none
def px_sti (ls : List Value) (i pc : Nat) (st : List Value) (h : px_H) : px_O := match st with
  | .int x :: r => if i < ls.length then px_n pc (px_set ls i (.int x)) r h else none
  | _ => none
def px_stl (ls : List Value) (i pc : Nat) (st : List Value) (h : px_H) : px_O := match st with
  | .long x :: r => if i + 1 < ls.length then px_n pc (px_set2 ls i (.long x)) r h else none
  | _ => none
def px_sta (ls : List Value) (i pc : Nat) (st : List Value) (h : px_H) : px_O := match st with
  | .ref x :: r => if i < ls.length then px_n pc (px_set ls i (.ref x)) r h else none
  | .null :: r => if i < ls.length then px_n pc (px_set ls i .null) r h else none
  | _ => none
def px_ii (f : Int32 → Int32 → Int32) (pc : Nat) (ls st : List Value) (h : px_H) : px_O := match st with
  | .int y :: .int x :: r => px_n (pc + 1) ls (.int (f x y) :: r) h
  | _ => none
def px_ll (f : Int64 → Int64 → Int64) (pc : Nat) (ls st : List Value) (h : px_H) : px_O := match st with
  | .long y :: .long x :: r => px_n (pc + 1) ls (.long (f x y) :: r) h
  | _ => none
/-- an array load: of kind kd -/
def px_ald (kd pc : Nat) (ls st : List Value) (h : px_H) : px_O := match st with
  | .int i :: .ref a :: r => (match h.1[a]? with
    | some (k, n) => if k = kd ∧ 0 ≤ i.toInt ∧ i.toInt < n then px_n (pc + 1) ls (px_dec (px_ty kd 0) (h.2 a i.toInt.toNat) :: r) h else none
    | none => none)
  | _ => none
def px_ast (kd pc : Nat) (ls st : List Value) (h : px_H) : px_O := match st with
  | v :: .int i :: .ref a :: r => (match h.1[a]? with
    | some (k, n) => if k = kd ∧ 0 ≤ i.toInt ∧ i.toInt < n then (match px_enc (px_ty kd 0) v with
      | some x => px_n (pc + 1) ls r (h.1, px_up h.2 a i.toInt.toNat x)
      | none => none) else none
    | none => none)
  | _ => none
/-- a reference into an array of references: the cell's kind fits -/
def px_eok (kd : Nat) (v : Value) (s : List (Nat × Nat)) : Bool := match v with
  | .null => true
  | .ref a => (match s[a]? with
    | some (k, _) => (kd == 13 && k == 6) || (kd == 14 && k == 1) || (kd == 15 && k == 0)
    | none => false)
  | _ => false
def px_newa (kd pc len : Nat) (dflt : Int) (ls st : List Value) (h : px_H) : px_O := match st with
  | .int n :: r => if 0 ≤ n.toInt ∧ n.toInt ≤ 1000000 then px_n (pc + len) ls (.ref h.1.length :: r) (h.1 ++ [(kd, n.toInt.toNat)], px_cl h.2 h.1.length (fun _ => dflt)) else none
  | _ => none
def px_copy (M : Nat → Nat → Int) (a0 sp a1 dp n : Nat) : Nat → Nat → Int := px_cl M a1 (fun j => if dp ≤ j ∧ j < dp + n then M a0 (sp + (j - dp)) else M a1 j)
/-- the end of a method, by its type -/
def px_fin (rt : Option FieldType) (v : Value) : Bool := match rt, v with
  | some .int, .int _ => true
  | some .boolean, .int x => x = 0 || x = 1
  | some .byte, .int x => x = 0
  | some .char, .int x => 0 ≤ x && x < 256
  | some .long, .long _ => true
  | some (.object _), .ref _ => true
  | _, _ => false
/-- one instruction; cf: the calls, xs, L: the script -/
def px_call (cf : Nat → List Value → px_H → Option (Option Value × px_H)) (k o i pc : Nat) (vk : Nat) (ls st : List Value) (h : px_H) : px_O := match px_ct o i with
  | none => none
  | some (kd, t, n) =>
    if kd = 0 then (match st with
      | .ref _ :: r => if vk = 5 ∧ px_room r then px_n (pc + 3) ls r h else none
      | _ => none)
    else if kd = 1 then (match st with
      | .int m :: .int dp :: .ref a1 :: .int sp :: .ref a0 :: r => (match h.1[a0]?, h.1[a1]? with
        | some (k0, n0), some (k1, n1) => if vk = 3 ∧ k0 = 10 ∧ k1 = 10 ∧ 0 ≤ sp.toInt ∧ 0 ≤ dp.toInt ∧ 0 ≤ m.toInt ∧ sp.toInt + m.toInt ≤ n0 ∧ dp.toInt + m.toInt ≤ n1 ∧ px_room r = true then px_n (pc + 3) ls r (h.1, px_copy h.2 a0 sp.toInt.toNat a1 dp.toInt.toNat m.toInt.toNat) else none
        | _, _ => none)
      | _ => none)
    else if kd = 2 then (match t, st with
      | 0, .int y :: .int x :: r => if vk = 3 ∧ px_room r = true then px_n (pc + 3) ls (.int (if x < y then y else x) :: r) h else none
      | 1, .int y :: .int x :: r => if vk = 3 ∧ px_room r = true then px_n (pc + 3) ls (.int (if y < x then y else x) :: r) h else none
      | 2, .int x :: r => if vk = 3 ∧ px_room r = true then px_n (pc + 3) ls (.int (if 0 ≤ x then x else 0 - x) :: r) h else none
      | _, _ => none)
    else if kd = 3 ∨ kd = 4 then
      (if vk = 3 ∧ n ≤ st.length ∧ px_room (st.drop n) = true then (match cf t (st.take n).reverse h with
        | some (v, h2) => px_n (pc + 3) ls (v.toList ++ st.drop n) h2
        | none => none) else none)
    else if kd = 5 ∨ kd = 6 then
      (match st.drop n with
        | .ref b :: r => if vk = 5 ∧ n ≤ st.length ∧ px_room r = true then (match cf t (.ref b :: (st.take n).reverse) h with
          | some (v, h2) => px_n (pc + 3) ls (v.toList ++ r) h2
          | none => none) else none
        | _ => none)
    else if kd = 7 then
      (match st.drop n with
        | .ref b :: r => (match h.1[b]? with
          | some (kb, _) => if vk = 7 ∧ kb = px_own t ∧ kb < 10 ∧ n ≤ st.length ∧ px_room r = true then (match cf t (.ref b :: (st.take n).reverse) h with
            | some (v, h2) => px_n (pc + 3) ls (v.toList ++ r) h2
            | none => none) else none
          | none => none)
        | .retAddr b :: r => if vk = 7 ∧ px_own t = 20 ∧ 1 ≤ b ∧ b ≤ 14 ∧ n ≤ st.length ∧ px_room r = true then (match cf t (.retAddr b :: (st.take n).reverse) h with
            | some (v, h2) => px_n (pc + 3) ls (v.toList ++ r) h2
            | none => none) else none
        | _ => none)
    else none
def px_getf (o i pc : Nat) (ls st : List Value) (h : px_H) : px_O := match st with
  | .ref a :: r => (match px_fr o i, h.1[a]? with
    | some (ci, k), some (kd, n) => if kd = ci ∧ k < n then px_n (pc + 3) ls (px_dec (px_ty ci k) (h.2 a k) :: r) h else none
    | _, _ => none)
  | .retAddr b :: r => if o = 20 ∧ 1 ≤ b ∧ b ≤ 14 then (if i = 9 then px_n (pc + 3) ls (.retAddr (99 + b) :: r) h else if i = 15 then px_n (pc + 3) ls (.int (iI 0) :: r) h else none) else none
  | _ => none
def px_putf (k o i pc : Nat) (ls st : List Value) (h : px_H) : px_O := match st with
  | v :: .ref a :: r => (match px_fr o i, h.1[a]? with
    | some (ci, j), some (kd, n) => if kd = ci ∧ j < n ∧ (((px_C ci).2.1 j).2.2.2 = true → px_isInit k = true ∧ o = ci) then (match px_enc (px_ty ci j) v with
      | some x => px_n (pc + 3) ls r (h.1, px_up h.2 a j x)
      | none => none) else none
    | _, _ => none)
  | _ => none
def px_exec (xs : Nat → Int) (L : Nat) (cf : Nat → List Value → px_H → Option (Option Value × px_H)) (k : Nat) (ins : Instr) (len pc : Nat) (ls st : List Value) (h : px_H) : px_O := match ins with
  | .iconst n => if len = 1 then px_n (pc + 1) ls (.int (iI n) :: st) h else none
  | .bipush n => if len = 2 ∧ -128 ≤ n ∧ n < 128 then px_n (pc + 2) ls (.int (iI n) :: st) h else none
  | .sipush n => if len = 3 ∧ -32768 ≤ n ∧ n < 32768 then px_n (pc + 3) ls (.int (iI n) :: st) h else none
  | .lconst n => if len = 1 then px_n (pc + 1) ls (.long (lI ((n : Nat) : Int)) :: st) h else none
  | .ldc i => if len = 2 then (match px_kc (px_own k) i, px_sc (px_own k) i with
    | some c, _ => px_n (pc + 2) ls (.int (iI c) :: st) h
    | none, some t => px_n (pc + 2) ls (.retAddr (t + 1) :: st) h
    | _, _ => none) else none
  | .ldc_w i => if len = 3 then (match px_kc (px_own k) i with
    | some c => px_n (pc + 3) ls (.int (iI c) :: st) h
    | none => none) else none
  | .ldc2_w i => if len = 3 then (match px_k2c (px_own k) i with
    | some c => px_n (pc + 3) ls (.long (lI c) :: st) h
    | none => none) else none
  | .iload i => if len = 2 then px_ldi ls i (pc + 2) st h else none
  | .iload_n i => if len = 1 then px_ldi ls i (pc + 1) st h else none
  | .lload i => if len = 2 then px_ldl ls i (pc + 2) st h else none
  | .lload_n i => if len = 1 then px_ldl ls i (pc + 1) st h else none
  | .aload i => if len = 2 then px_lda ls i (pc + 2) st h else none
  | .aload_n i => if len = 1 then px_lda ls i (pc + 1) st h else none
  | .istore i => if len = 2 then px_sti ls i (pc + 2) st h else none
  | .istore_n i => if len = 1 then px_sti ls i (pc + 1) st h else none
  | .lstore i => if len = 2 then px_stl ls i (pc + 2) st h else none
  | .lstore_n i => if len = 1 then px_stl ls i (pc + 1) st h else none
  | .astore i => if len = 2 then px_sta ls i (pc + 2) st h else none
  | .astore_n i => if len = 1 then px_sta ls i (pc + 1) st h else none
  | .iinc i n => if len = 3 then (match ls[i]? with
    | some (.int x) => px_n (pc + 3) (px_set ls i (.int (x + iI n))) st h
    | _ => none) else none
  | .iadd => if len = 1 then px_ii (fun x y => x + y) pc ls st h else none
  | .isub => if len = 1 then px_ii (fun x y => x - y) pc ls st h else none
  | .imul => if len = 1 then px_ii (fun x y => x * y) pc ls st h else none
  | .iand => if len = 1 then px_ii (fun x y => x &&& y) pc ls st h else none
  | .ior => if len = 1 then px_ii (fun x y => x ||| y) pc ls st h else none
  | .ixor => if len = 1 then px_ii (fun x y => x ^^^ y) pc ls st h else none
  | .ishl => if len = 1 then px_ii (fun x y => x <<< (y &&& 31)) pc ls st h else none
  | .ishr => if len = 1 then px_ii (fun x y => x >>> (y &&& 31)) pc ls st h else none
  | .iushr => if len = 1 then px_ii (fun x y => (x.toUInt32 >>> (y.toUInt32 &&& Int32.toUInt32 31)).toInt32) pc ls st h else none
  | .idiv => if len = 1 then (match st with
    | .int y :: .int x :: r => if y = 0 then none else px_n (pc + 1) ls (.int (x / y) :: r) h
    | _ => none) else none
  | .irem => if len = 1 then (match st with
    | .int y :: .int x :: r => if y = 0 then none else px_n (pc + 1) ls (.int (x - x / y * y) :: r) h
    | _ => none) else none
  | .ineg => if len = 1 then (match st with
    | .int x :: r => px_n (pc + 1) ls (.int (-x) :: r) h
    | _ => none) else none
  | .ladd => if len = 1 then px_ll (fun x y => x + y) pc ls st h else none
  | .lsub => if len = 1 then px_ll (fun x y => x - y) pc ls st h else none
  | .lmul => if len = 1 then px_ll (fun x y => x * y) pc ls st h else none
  | .ldiv => if len = 1 then (match st with
    | .long y :: .long x :: r => if y = 0 then none else px_n (pc + 1) ls (.long (x / y) :: r) h
    | _ => none) else none
  | .lrem => if len = 1 then (match st with
    | .long y :: .long x :: r => if y = 0 then none else px_n (pc + 1) ls (.long (x - x / y * y) :: r) h
    | _ => none) else none
  | .lcmp => if len = 1 then (match st with
    | .long y :: .long x :: r => px_n (pc + 1) ls (.int (lg_cmp x y) :: r) h
    | _ => none) else none
  | .i2l => if len = 1 then (match st with
    | .int x :: r => px_n (pc + 1) ls (.long x.toInt64 :: r) h
    | _ => none) else none
  | .l2i => if len = 1 then (match st with
    | .long x :: r => px_n (pc + 1) ls (.int x.toInt32 :: r) h
    | _ => none) else none
  | .i2c => if len = 1 then (match st with
    | .int x :: r => if 0 ≤ x.toInt ∧ x.toInt < 256 then px_n (pc + 1) ls (.int x :: r) h else none
    | _ => none) else none
  | .dup => if len = 1 then (match st with
    | v :: r => if v.category = 1 then px_n (pc + 1) ls (v :: v :: r) h else none
    | _ => none) else none
  | .pop => if len = 1 then (match st with
    | v :: r => if v.category = 1 then px_n (pc + 1) ls r h else none
    | _ => none) else none
  | .dup2 => if len = 1 then (match st with
    | v :: w :: r => if v.category = 1 ∧ w.category = 1 then px_n (pc + 1) ls (v :: w :: v :: w :: r) h else none
    | _ => none) else none
  | .goto off => if len = 3 then px_br True pc off 3 ls st h else none
  | .ifCond c off => if len = 3 then (match st with
    | .int x :: r => (match c with
      | .eq => px_br (x = 0) pc off 3 ls r h
      | .ne => px_br (¬ x = 0) pc off 3 ls r h
      | .lt => px_br (x < 0) pc off 3 ls r h
      | .ge => px_br (0 ≤ x) pc off 3 ls r h
      | .gt => px_br (0 < x) pc off 3 ls r h
      | .le => px_br (x ≤ 0) pc off 3 ls r h)
    | _ => none) else none
  | .if_icmp c off => if len = 3 then (match st with
    | .int y :: .int x :: r => (match c with
      | .eq => px_br (x = y) pc off 3 ls r h
      | .ne => px_br (¬ x = y) pc off 3 ls r h
      | .lt => px_br (x < y) pc off 3 ls r h
      | .ge => px_br (y ≤ x) pc off 3 ls r h
      | .gt => px_br (y < x) pc off 3 ls r h
      | .le => px_br (x ≤ y) pc off 3 ls r h)
    | _ => none) else none
  | .ifnonnull off => if len = 3 then (match st with
    | .ref _ :: r => px_br True pc off 3 ls r h
    | .null :: r => px_n (pc + 3) ls r h
    | _ => none) else none
  | .tableswitch dflt lo hi offs => (match st with
    | .int x :: r => if x.toInt < lo ∨ hi < x.toInt then px_br True pc dflt 3 ls r h else (match offs[(x.toInt - lo).toNat]? with
      | some off => px_br True pc off 3 ls r h
      | none => none)
    | _ => none)
  | .getfield i => if len = 3 then px_getf (px_own k) i pc ls st h else none
  | .putfield i => if len = 3 then px_putf k (px_own k) i pc ls st h else none
  | .getstatic i => if len = 3 ∧ px_own k = 20 then (if i = 38 then px_n (pc + 3) ls (.int (iI 1) :: st) h else if i = 1053 then px_n (pc + 3) ls (.retAddr 999 :: st) h else none) else none
  | .iaload => if len = 1 then (match st with
    | .int i :: .retAddr 0 :: r => if 0 ≤ i.toInt ∧ i.toInt < L then px_n (pc + 1) ls (.int (iI (xs i.toInt.toNat)) :: r) h else none
    | _ => px_ald 10 pc ls st h) else none
  | .baload => if len = 1 then (match st with
    | .int i :: .retAddr b :: r => if 100 ≤ b ∧ b < 114 ∧ 0 ≤ i.toInt ∧ i.toInt < (px_txt (b - 100)).length then px_n (pc + 1) ls (.int (iI (((px_txt (b - 100)).getD i.toInt.toNat 'a').toNat : Int)) :: r) h else none
    | _ => px_ald 11 pc ls st h) else none
  | .laload => if len = 1 then px_ald 12 pc ls st h else none
  | .aaload => if len = 1 then (match st with
    | .int _ :: .ref a :: _ => (match h.1[a]? with
      | some (k, _) => if 13 ≤ k ∧ k ≤ 15 then px_ald k pc ls st h else none
      | none => none)
    | _ => none) else none
  | .iastore => if len = 1 then px_ast 10 pc ls st h else none
  | .bastore => if len = 1 then px_ast 11 pc ls st h else none
  | .lastore => if len = 1 then px_ast 12 pc ls st h else none
  | .aastore => if len = 1 then (match st with
    | v :: .int _ :: .ref a :: _ => (match h.1[a]? with
      | some (k, _) => if 13 ≤ k ∧ k ≤ 15 ∧ px_eok k v h.1 = true then px_ast k pc ls st h else none
      | none => none)
    | _ => none) else none
  | .arraylength => if len = 1 then (match st with
    | .ref a :: r => (match h.1[a]? with
      | some (k, n) => if 10 ≤ k ∧ k ≤ 15 then px_n (pc + 1) ls (.int (iI (n : Int)) :: r) h else none
      | none => none)
    | .retAddr b :: r => if b = 0 then px_n (pc + 1) ls (.int (iI (L : Int)) :: r) h else if 100 ≤ b ∧ b < 114 then px_n (pc + 1) ls (.int (iI ((px_txt (b - 100)).length : Int)) :: r) h else none
    | _ => none) else none
  | .newarray ty => if len = 2 then (match ty with
    | .int => px_newa 10 pc 2 0 ls st h
    | .boolean => px_newa 11 pc 2 0 ls st h
    | .long => px_newa 12 pc 2 0 ls st h
    | _ => none) else none
  | .anewarray i => if len = 3 then (match px_clc (px_own k) i with
    | some 6 => px_newa 13 pc 3 (-1) ls st h
    | some 1 => px_newa 14 pc 3 (-1) ls st h
    | some 0 => px_newa 15 pc 3 (-1) ls st h
    | _ => none) else none
  | .new i => if len = 3 then (match px_clc (px_own k) i with
    | some ci => if ci < 10 then px_n (pc + 3) ls (.ref h.1.length :: st) (h.1 ++ [(ci, (px_C ci).2.2)], px_cl h.2 h.1.length (fun j => if px_ty ci j = 2 then -1 else 0)) else none
    | none => none) else none
  | .aconst_null => if len = 1 then px_n (pc + 1) ls (.null :: st) h else none
  | .invokestatic i => if len = 3 then px_call cf k (px_own k) i pc 3 ls st h else none
  | .invokespecial i => if len = 3 then px_call cf k (px_own k) i pc 5 ls st h else none
  | .invokevirtual i => if len = 3 then px_call cf k (px_own k) i pc 7 ls st h else none
  | .ireturn => if len = 1 then (match st with
    | [.int x] => if px_fin (px_ret k) (.int x) = true then some (.inr (some (.int x), h)) else none
    | _ => none) else none
  | .lreturn => if len = 1 then (match st with
    | [.long x] => if px_fin (px_ret k) (.long x) = true then some (.inr (some (.long x), h)) else none
    | _ => none) else none
  | .areturn => if len = 1 then (match st with
    | [.ref x] => if px_fin (px_ret k) (.ref x) = true then some (.inr (some (.ref x), h)) else none
    | _ => none) else none
  | .return_ => if len = 1 then (match st with
    | [] => if px_ret k = none then some (.inr (none, h)) else none
    | _ => none) else none
  | _ => none
def px_step (xs : Nat → Int) (L : Nat) (cf : Nat → List Value → px_H → Option (Option Value × px_H)) (k : Nat) (S : px_S) : px_O := match px_fetch k S.1 with
  | some (ins, len) => px_exec xs L cf k ins len S.1 S.2.1 S.2.2.1 S.2.2.2
  | none => none
def px_run (xs : Nat → Int) (L : Nat) (cf : Nat → List Value → px_H → Option (Option Value × px_H)) (k : Nat) : Nat → px_S → Option (Option Value × px_H)
  | 0, _ => none
  | n + 1, S => match px_step xs L cf k S with
    | none => none
    | some (.inl S2) => px_run xs L cf k n S2
    | some (.inr r) => some r
def px_slots : List Value → List Value
  | [] => []
  | .long x :: r => .long x :: px_jk :: px_slots r
  | .double x :: r => .double x :: px_jk :: px_slots r
  | v :: r => v :: px_slots r
def px_ent (args : List Value) (n : Nat) : List Value := px_slots args ++ List.replicate (n - (px_slots args).length) px_jk
/-- a call of method k, at most d frames deep, at most n steps in each -/
def px_ev (xs : Nat → Int) (L n : Nat) : Nat → Nat → List Value → px_H → Option (Option Value × px_H)
  | 0, _, _, _ => none
  | d + 1, k, args, h => if (px_slots args).length ≤ px_maxL k then px_run xs L (px_ev xs L n d) k n (0, px_ent args (px_maxL k), [], h) else none

/-! THE SMALL MACHINE: worlds as lists of cells, references as places in the list; a cell's address is the base and its place. -/
abbrev am_Cl : Type := (Bool × Nat × (Nat → Int32)) ⊕ (Nat × List Value)
def am_v (b : Nat) : Value → Value
  | .ref i => .ref (b + i)
  | v => v
def am_e (cI cZ : ClassId) (b : Nat) : am_Cl → va_E
  | .inl (z, n, f) => .inl (cond z cZ cI, n, .inl f)
  | .inr (c, fs) => .inr (c, fs.map (am_v b))
def am_H (D : va_G) (cI cZ : ClassId) (b : Nat) (ab : List am_Cl) (H : Heap) : Prop :=
  H.size = b + ab.length ∧ ∀ (i : Nat) (c : am_Cl), ab[i]? = some c → va_at D vwCl (b + i, am_e cI cZ b c) H
/-- the private method of the abstract class, as its two heirs select it -/
def am_ext : List Cond := [.selects RX5 yX8_forgetAll yX8_forgetAll, .selects RX9 yX8_forgetAll yX8_forgetAll]
def am_tbl : List Cond := lw_tbl ++ am_ext
def am_gw : List Cond := am_tbl.filter goodWord
def am_isb : Cond → Bool
  | .methodLinkNest .. => true
  | .declares .. => true
  | _ => false
def am_bw : List Cond := am_tbl.filter am_isb
def am_K (D : va_G) (cI cZ : ClassId) (U : State) : Prop := va_K D vwCl [(cI, .int), (cZ, .boolean)] U ∧ ∀ w ∈ am_bw, va_Nw w U
/-- a method: its name, code, locals, answer, room -/
abbrev am_Sg : Type := MethodName × ByteArray × Nat × Option FieldType × Room
abbrev am_y (S : am_Sg) : MethodName := S.1
abbrev am_c (S : am_Sg) : ByteArray := S.2.1
abbrev am_l (S : am_Sg) : Nat := S.2.2.1
abbrev am_r (S : am_Sg) : Option FieldType := S.2.2.2.1
abbrev am_rm (S : am_Sg) : Room := S.2.2.2.2
abbrev am_cw (S : am_Sg) : Cond := Cond.code (am_y S) (am_c S) (am_l S) (am_r S)
def am_Q (D : va_G) (cI cZ : ClassId) (b : Nat) (r : Option Value) (ab' : List am_Cl) : Array Value → State → Outcome → State → Prop := fun _ st o t => o = .returned (r.map (am_v b)) ∧ am_H D cI cZ b ab' t.heap ∧ va_F (fun q => b ≤ q) st t
def am_Ev (S : am_Sg) (as : List Value) (ab : List am_Cl) (r : Option Value) (ab' : List am_Cl) : Prop :=
  am_cw S ∈ am_gw ∧ ∀ (l : Launch) (D : va_G) (cI cZ : ClassId) (b : Nat), Met l (am_y S) (am_cw S :: am_gw) (am_rm S) (fun a U => a = (as.map (am_v b)).toArray ∧ am_H D cI cZ b ab U.heap ∧ am_K D cI cZ U) (am_Q D cI cZ b r ab') (am_rm S).cells (am_rm S).slots (fun q => b ≤ q)
def am_Cx (S : am_Sg) (D : va_G) (cI cZ : ClassId) (b : Nat) (p : Program) (s : State) (m : MethodId) (args : Array Value) (meth : Method) (c : Code) : Prop :=
  p.tables.exec = Jvm.exec ∧ c.code = am_c S ∧ meth.sig.returnType = am_r S ∧ meth.locks = false ∧ c.maxLocals = am_l S ∧ s.vm.findClass (am_y S).cls = some m.cls ∧ meth.name = (am_y S).name ∧ (∀ w ∈ am_gw, w.before args s = true) ∧ am_K D cI cZ s ∧ b ≤ s.heap.size
/-- locals: what is known of them -/
def am_ok : Value → Bool
  | .int _ => true
  | .ref _ => true
  | .null => true
  | _ => false
def am_lv (b : Nat) (L : List Value) : List (Nat × Value) := (L.zipIdx.filter (fun q => am_ok q.1)).map (fun q => (q.2, am_v b q.1))
def am_T (S : am_Sg) (r : Option Value) (ab' : List am_Cl) (pc : Nat) (L st : List Value) (ab : List am_Cl) (k n : Nat) : Prop :=
  ∀ (l : Launch) (D : va_G) (cI cZ : ClassId) (b : Nat) (p : Program) (e : Env) (s : State) (m : MethodId) (args : Array Value) (below : List Frame) (meth : Method) (c : Code) (H : Heap) (locs : List Loc) (ls : Array Slot),
    am_Cx S D cI cZ b p s m args meth c → am_H D cI cZ b ab H → va_S (fun q => b ≤ q) s.heap H locs → lv_has ls (am_l S) (am_lv b L) → L.length = am_l S →
    W p l e (am_rm S) s m args below meth c H locs k n (MQ below (am_Q D cI cZ b r ab') args s (am_rm S).cells (am_rm S).slots (fun q => b ≤ q)) (F0 m pc ls (st.map (am_v b)))
/-- a row: the instruction, a number, a literal, a name, classes, callees by class, a switch's targets, places of words -/
abbrev am_Rw : Type := Instr × Nat × Int32 × String × List Nat × List (Nat × am_Sg) × List (Int32 × Nat) × List Nat
abbrev rw0 (i : Instr) : am_Rw := (i, 0, 0, "", [], [], [], [])
abbrev rwN (i : Instr) (k : Nat) : am_Rw := (i, k, 0, "", [], [], [], [])
abbrev rwL (i : Instr) (v : Int32) : am_Rw := (i, 0, v, "", [], [], [], [])
abbrev rwA (i : Instr) (k : Nat) (v : Int32) : am_Rw := (i, k, v, "", [], [], [], [])
abbrev rwP (i : Instr) (v : Int32) (ps : List Nat) : am_Rw := (i, 0, v, "", [], [], [], ps)
abbrev rwF (i : Instr) (k : Nat) (v : Int32) (r : String) (cs : List Nat) (ps : List Nat) : am_Rw := (i, k, v, r, cs, [], [], ps)
abbrev rwC (i : Instr) (k : Nat) (r : String) (qs : List (Nat × am_Sg)) (ps : List Nat) : am_Rw := (i, k, 0, r, [], qs, [], ps)
abbrev rwS (i : Instr) (d : Nat) (sw : List (Int32 × Nat)) : am_Rw := (i, d, 0, "", [], [], sw, [])
abbrev w_k (w : am_Rw) : Nat := w.2.1
abbrev w_v (w : am_Rw) : Int32 := w.2.2.1
abbrev w_r (w : am_Rw) : String := w.2.2.2.1
abbrev w_cs (w : am_Rw) : List Nat := w.2.2.2.2.1
abbrev w_qs (w : am_Rw) : List (Nat × am_Sg) := w.2.2.2.2.2.1
abbrev w_sw (w : am_Rw) : List (Int32 × Nat) := w.2.2.2.2.2.2.1
abbrev w_ps (w : am_Rw) : List Nat := w.2.2.2.2.2.2.2
abbrev am_Cd : Type := List (Nat × List (Nat × am_Rw))
def am_fr (pc : Nat) : List (Nat × am_Rw) → Option (Nat × am_Rw)
  | [] => none
  | q :: l => cond (Nat.beq q.1 pc) (some q) (am_fr pc l)
def am_lk (pc : Nat) : am_Cd → Option (Nat × am_Rw)
  | [] => none
  | q :: l => cond (Nat.blt pc q.1) (am_fr pc q.2) (am_lk pc l)
abbrev am_Ps : Type := Nat → List Value → List Value → List am_Cl → Nat → Nat → Prop
/-- forward: walk on; backward: stop -/
def am_go (K Tt : am_Ps) (pc t : Nat) (L st : List Value) (ab : List am_Cl) (k n : Nat) : Prop := cond (Nat.blt pc t) (K t L st ab k n) (Tt t L st ab k n)
def am_br (c : Prop) (A B : Prop) : Prop := (c → A) ∧ (¬ c → B)
def am_sw (K Tt : am_Ps) (pc d : Nat) (x : Int32) (L st : List Value) (ab : List am_Cl) (k n : Nat) : List (Int32 × Nat) → Prop
  | [] => am_go K Tt pc d L st ab k n
  | q :: l => am_br (x = q.1) (am_go K Tt pc q.2 L st ab k n) (am_sw K Tt pc d x L st ab k n l)
def am_ic (c : ClassFile.Cond) (x y : Int32) (A B : Prop) : Prop := match c with
  | .eq => am_br (x = y) A B
  | .ne => am_br (x = y) B A
  | .lt => am_br (x < y) A B
  | .ge => am_br (y ≤ x) A B
  | .gt => am_br (y < x) A B
  | .le => am_br (x ≤ y) A B
def am_ls : List am_Cl → Nat → Option am_Cl
  | [], _ => none
  | c :: _, 0 => some c
  | _ :: l, i + 1 => am_ls l i
def am_up : List am_Cl → Nat → am_Cl → List am_Cl
  | [], _, _ => []
  | _ :: l, 0, d => d :: l
  | c :: l, i + 1, d => c :: am_up l i d
def am_vs : List Value → Nat → Option Value
  | [], _ => none
  | c :: _, 0 => some c
  | _ :: l, i + 1 => am_vs l i
def am_vu : List Value → Nat → Value → List Value
  | [], _, _ => []
  | _ :: l, 0, d => d :: l
  | c :: l, i + 1, d => c :: am_vu l i d
def am_cl : List (Nat × am_Sg) → Nat → Option am_Sg
  | [], _ => none
  | q :: l, c => cond (Nat.beq q.1 c) (some q.2) (am_cl l c)
def am_in : List Nat → Nat → Bool
  | [], _ => false
  | q :: l, c => cond (Nat.beq q c) true (am_in l c)
def am_tk : Nat → List Value → List Value → Option (List Value × List Value)
  | 0, acc, st => some (acc, st)
  | n + 1, acc, v :: st => am_tk n (v :: acc) st
  | _ + 1, _, [] => none
def am_ct : List Value → Nat
  | [] => 0
  | v :: l => v.category + am_ct l
/-- the default cells of a class's objects -/
def am_df : Nat → List Value
  | 0 => [.null, .int 0, .int 0, .int 0, .null]
  | 1 => [.null, .int 0]
  | 2 => [.null, .int 0]
  | 3 => [.null, .null, .null, .null, .int 0, .int 0, .int 0, .int 0, .null]
  | 4 => [.null, .null, .null, .null, .null, .null, .int 0, .int 0]
  | 5 => [.null, .null, .int 0]
  | 6 => [.null, .null, .null, .null, .int 0, .int 0, .int 0, .int 0, .null]
  | 7 => [.null, .null, .null, .null, .null, .null, .null, .null, .int 0]
  | 8 => (List.range 28).map (fun j => match tyX11 j with | .int => .int 0 | .boolean => .int 0 | _ => .null)
  | _ => []
/-- a value that a field of this sort may get -/
def am_fv (sort : Int32) : Value → Bool
  | .int x => decide (sort = 0) || (decide (sort = 1) && (decide (x = 0) || decide (x = 1)))
  | .ref _ => decide (sort = 2)
  | .null => decide (sort = 2)
  | _ => false
/-- a call: what the callee's contract gives -/
def am_cal (S q : am_Sg) (K : am_Ps) (pc : Nat) (as : List Value) (L rest : List Value) (ab : List am_Cl) (k n : Nat) : Prop :=
  cond (Nat.ble (am_ct rest) 8 && Nat.ble (k + (am_rm q).cells) (am_rm S).cells && Nat.ble (n + (am_rm q).slots) (am_rm S).slots)
    (∃ (v : Option Value) (ab1 : List am_Cl), am_Ev q as ab v ab1 ∧ cond (Nat.beq (am_rm q).cells 0 && Nat.beq (am_rm q).slots 0) (K pc L (v.toList ++ rest) ab1 k n) (K pc L (v.toList ++ rest) ab1 (k + (am_rm q).cells) (n + (am_rm q).slots)))
    False
/-- one instruction -/
def am_s1 (S : am_Sg) (r : Option Value) (ab' : List am_Cl) (Tt K : am_Ps) (w : am_Rw) : am_Ps := fun pc L st ab k n => match w.1 with
  | .iconst _ => K (pc + 1) L (.int (w_v w) :: st) ab k n
  | .bipush _ => K (pc + 2) L (.int (w_v w) :: st) ab k n
  | .sipush _ => K (pc + 3) L (.int (w_v w) :: st) ab k n
  | .ldc _ => K (pc + 2) L (.int (w_v w) :: st) ab k n
  | .iload_n i => match am_vs L i.val with
    | some (.int x) => K (pc + 1) L (.int x :: st) ab k n
    | _ => False
  | .iload i => match am_vs L i with
    | some (.int x) => K (pc + 2) L (.int x :: st) ab k n
    | _ => False
  | .aload_n i => match am_vs L i.val with
    | some (.ref x) => K (pc + 1) L (.ref x :: st) ab k n
    | some .null => K (pc + 1) L (.null :: st) ab k n
    | _ => False
  | .istore_n i => match st with
    | .int x :: rest => match am_vs L i.val with
      | some _ => K (pc + 1) (am_vu L i.val (.int x)) rest ab k n
      | none => False
    | _ => False
  | .istore i => match st with
    | .int x :: rest => match am_vs L i with
      | some _ => K (pc + 2) (am_vu L i (.int x)) rest ab k n
      | none => False
    | _ => False
  | .astore_n i => match st with
    | .ref x :: rest => match am_vs L i.val with
      | some _ => K (pc + 1) (am_vu L i.val (.ref x)) rest ab k n
      | none => False
    | .null :: rest => match am_vs L i.val with
      | some _ => K (pc + 1) (am_vu L i.val .null) rest ab k n
      | none => False
    | _ => False
  | .iinc i _ => match am_vs L i with
    | some (.int x) => K (pc + 3) (am_vu L i (.int (x + w_v w))) st ab k n
    | _ => False
  | .iadd => match st with
    | .int y :: .int x :: rest => K (pc + 1) L (.int (x + y) :: rest) ab k n
    | _ => False
  | .isub => match st with
    | .int y :: .int x :: rest => K (pc + 1) L (.int (x - y) :: rest) ab k n
    | _ => False
  | .imul => match st with
    | .int y :: .int x :: rest => K (pc + 1) L (.int (x * y) :: rest) ab k n
    | _ => False
  | .idiv => match st with
    | .int y :: .int x :: rest => cond (decide (y = 0)) False (K (pc + 1) L (.int (x / y) :: rest) ab k n)
    | _ => False
  | .irem => match st with
    | .int y :: .int x :: rest => cond (decide (y = 0)) False (K (pc + 1) L (.int (x - x / y * y) :: rest) ab k n)
    | _ => False
  | .iand => match st with
    | .int y :: .int x :: rest => K (pc + 1) L (.int (x &&& y) :: rest) ab k n
    | _ => False
  | .ior => match st with
    | .int y :: .int x :: rest => K (pc + 1) L (.int (x ||| y) :: rest) ab k n
    | _ => False
  | .ishl => match st with
    | .int y :: .int x :: rest => K (pc + 1) L (.int (x <<< (y &&& 31)) :: rest) ab k n
    | _ => False
  | .ishr => match st with
    | .int y :: .int x :: rest => K (pc + 1) L (.int (x >>> (y &&& 31)) :: rest) ab k n
    | _ => False
  | .iushr => match st with
    | .int y :: .int x :: rest => K (pc + 1) L (.int (x.toUInt32 >>> (y.toUInt32 &&& Int32.toUInt32 31)).toInt32 :: rest) ab k n
    | _ => False
  | .dup => match st with
    | v :: rest => cond (am_ok v) (K (pc + 1) L (v :: v :: rest) ab k n) False
    | _ => False
  | .dup2 => match st with
    | u :: v :: rest => cond (am_ok u && am_ok v) (K (pc + 1) L (u :: v :: u :: v :: rest) ab k n) False
    | _ => False
  | .pop => match st with
    | v :: rest => cond (am_ok v) (K (pc + 1) L rest ab k n) False
    | _ => False
  | .aconst_null => K (pc + 1) L (.null :: st) ab k n
  | .if_icmp c _ => match st with
    | .int y :: .int x :: rest => am_ic c x y (am_go K Tt pc (w_k w) L rest ab k n) (K (pc + 3) L rest ab k n)
    | _ => False
  | .ifCond c _ => match st with
    | .int x :: rest => am_ic c x 0 (am_go K Tt pc (w_k w) L rest ab k n) (K (pc + 3) L rest ab k n)
    | _ => False
  | .ifnonnull _ => match st with
    | .ref _ :: rest => am_go K Tt pc (w_k w) L rest ab k n
    | .null :: rest => K (pc + 3) L rest ab k n
    | _ => False
  | .goto _ => am_go K Tt pc (w_k w) L st ab k n
  | .tableswitch _ _ _ _ => match st with
    | .int x :: rest => am_sw K Tt pc (w_k w) x L rest ab k n (w_sw w)
    | _ => False
  | .lookupswitch _ _ => match st with
    | .int x :: rest => am_sw K Tt pc (w_k w) x L rest ab k n (w_sw w)
    | _ => False
  | .getfield _ => match st with
    | .ref i :: rest => match am_ls ab i with
      | some (.inr (ci, fs)) => cond (am_in (w_cs w) ci) (match am_vs fs (w_k w) with
        | some v => K (pc + 3) L (v :: rest) ab k n
        | none => False) False
      | _ => False
    | _ => False
  | .putfield _ => match st with
    | v :: .ref i :: rest => match am_ls ab i with
      | some (.inr (ci, fs)) => cond (am_in (w_cs w) ci && am_fv (w_v w) v) (match am_vs fs (w_k w) with
        | some _ => K (pc + 3) L rest (am_up ab i (.inr (ci, am_vu fs (w_k w) v))) k n
        | none => False) False
      | _ => False
    | _ => False
  | .iaload => match st with
    | .int j :: .ref i :: rest => match am_ls ab i with
      | some (.inl (false, N, f)) => vp_in j N ∧ K (pc + 1) L (.int (f j.toNatClampNeg) :: rest) ab k n
      | _ => False
    | _ => False
  | .iastore => match st with
    | .int x :: .int j :: .ref i :: rest => match am_ls ab i with
      | some (.inl (false, N, f)) => vp_in j N ∧ K (pc + 1) L rest (am_up ab i (.inl (false, N, upd f j.toNatClampNeg x))) k n
      | _ => False
    | _ => False
  | .baload => match st with
    | .int j :: .ref i :: rest => match am_ls ab i with
      | some (.inl (true, N, f)) => vp_in j N ∧ K (pc + 1) L (.int (f j.toNatClampNeg) :: rest) ab k n
      | _ => False
    | _ => False
  | .bastore => match st with
    | .int x :: .int j :: .ref i :: rest => match am_ls ab i with
      | some (.inl (true, N, f)) => vp_in j N ∧ K (pc + 1) L rest (am_up ab i (.inl (true, N, upd f j.toNatClampNeg (vp_nar .boolean x)))) k n
      | _ => False
    | _ => False
  | .newarray t => match st with
    | .int c :: rest => cond (decide (c = w_v w) && Nat.ble (k + 1) (am_rm S).cells && Nat.ble (n + w_k w) (am_rm S).slots) (K (pc + 2) L (.ref ab.length :: rest) (ab ++ [.inl (decide (t = .boolean), w_k w, fun _ => 0)]) (k + 1) (n + w_k w)) False
    | _ => False
  | .new _ => cond (Nat.ble (k + 1) (am_rm S).cells && Nat.ble (n + (am_df (w_k w)).length) (am_rm S).slots) (K (pc + 3) L (.ref ab.length :: st) (ab ++ [.inr (w_k w, am_df (w_k w))]) (k + 1) (n + (am_df (w_k w)).length)) False
  | .invokestatic _ => match w_qs w with
    | q :: _ => match am_tk (w_k w) [] st with
      | some (as, rest) => am_cal S q.2 K (pc + 3) as L rest ab k n
      | none => False
    | [] => match w_cs w with
      | [] => match st with
        | .int y :: .int x :: rest => cond (Nat.ble (am_ct rest) 8 && Nat.ble k (am_rm S).cells && Nat.ble n (am_rm S).slots) (K (pc + 3) L (.int (if y < x then y else x) :: rest) ab k n) False
        | _ => False
      | _ => match st with
        | .int c :: .int dp :: .ref a1 :: .int sp :: .ref a0 :: rest => match am_ls ab a0, am_ls ab a1 with
          | some (.inl (false, n0, f)), some (.inl (false, n1, g)) => cond (Nat.ble (am_ct rest) 8 && decide (c = w_v w) && decide (dp = 0) && decide (sp = 0) && Nat.ble (w_k w) n0 && Nat.ble (w_k w) n1) (K (pc + 3) L rest (am_up ab a1 (.inl (false, n1, va_cpy f g 0 0 (w_k w)))) k n) False
          | _, _ => False
        | _ => False
  | .invokevirtual _ => match am_tk (w_k w) [] st with
    | some (as, .ref i :: rest) => match am_ls ab i with
      | some (.inr (ci, _)) => match am_cl (w_qs w) ci with
        | some q => am_cal S q K (pc + 3) (.ref i :: as) L rest ab k n
        | none => False
      | _ => False
    | _ => False
  | .invokespecial _ => match w_qs w with
    | q :: _ => match am_tk (w_k w) [] st with
      | some (as, .ref i :: rest) => am_cal S q.2 K (pc + 3) (.ref i :: as) L rest ab k n
      | _ => False
    | [] => match st with
      | .ref _ :: rest => cond (Nat.ble (am_ct rest) 8) (K (pc + 3) L rest ab k n) False
      | _ => False
  | .ireturn => match st with
    | [.int x] => cond (Nat.ble k (am_rm S).cells && Nat.ble n (am_rm S).slots) (r = some (.int x) ∧ ab' = ab ∧ ∃ ty, am_r S = some ty ∧ narrow ty (.int x) = .int x) False
    | _ => False
  | .return_ => match st with
    | [] => cond (Nat.ble k (am_rm S).cells && Nat.ble n (am_rm S).slots) (r = none ∧ ab' = ab ∧ am_r S = none) False
    | _ => False
  | .areturn => match st with
    | [v] => cond (Nat.ble k (am_rm S).cells && Nat.ble n (am_rm S).slots && am_fv 2 v) (r = some v ∧ ab' = ab ∧ ∃ nm, am_r S = some (.object nm)) False
    | _ => False
  | _ => False
def am_wp (S : am_Sg) (cd : am_Cd) (r : Option Value) (ab' : List am_Cl) : Nat → am_Ps
  | 0 => am_T S r ab'
  | f + 1 => fun pc L st ab k n => match am_lk pc cd with
    | some q => am_s1 S r ab' (am_T S r ab') (am_wp S cd r ab' f) q.2 q.1 L st ab k n
    | none => False

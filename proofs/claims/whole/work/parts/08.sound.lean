/-! soundness of the small machine: rows are checked by a program, walks are sound -/
def am_at (i : Nat) (w : Cond) : Bool := match am_tbl[i]? with
  | some u => decide (u = w) && goodWord w
  | none => false
def am_atb (i : Nat) (w : Cond) : Bool := match am_tbl[i]? with
  | some u => decide (u = w) && am_isb w
  | none => false
theorem am_at_in {i : Nat} {w : Cond} (h : am_at i w = true) : w ∈ am_gw := by
  unfold am_at at h
  split at h
  · rename_i u hu
    simp only [Bool.and_eq_true, decide_eq_true_eq] at h
    rw [h.1] at hu
    exact am_mem hu h.2
  · cases h
theorem am_atb_in {i : Nat} {w : Cond} (h : am_atb i w = true) : w ∈ am_bw := by
  unfold am_atb at h
  split at h
  · rename_i u hu
    simp only [Bool.and_eq_true, decide_eq_true_eq] at h
    rw [h.1] at hu
    exact am_memb hu h.2
  · cases h
def am_fkb (own : String) (idx k : Nat) (ref : String) (p0 p1 : Nat) (ci : Nat) : Bool := match vwCl[ci]? with
  | some (_, T, N) => decide (k < N) && am_at p0 (.fieldLink own idx ref (T k).2.1 (T k).2.2.1) && (decide ((T k).1 = ref) || am_at p1 (.sameField ref (T k).1 (T k).2.1 (T k).2.2.1))
  | none => false
theorem am_fkb_ok {own ref : String} {idx k p0 p1 ci : Nat} (h : am_fkb own idx k ref p0 p1 ci = true) : am_fk own idx k ref ci := by
  unfold am_fkb at h
  split at h
  · rename_i C T N hc
    simp only [Bool.and_eq_true, Bool.or_eq_true, decide_eq_true_eq] at h
    exact ⟨C, T, N, hc, h.1.1, am_at_in h.1.2, h.2.imp id am_at_in⟩
  · cases h
def am_sob (sort : Int32) : Option FieldType → Bool
  | some .int => decide (sort = 0)
  | some .boolean => decide (sort = 1)
  | some (.object _) => decide (sort = 2)
  | some (.array _) => decide (sort = 2)
  | _ => false
def am_pkb (own nm : String) (idx k : Nat) (ref : String) (sort : Int32) (p0 p1 : Nat) (ci : Nat) : Bool := match vwCl[ci]? with
  | some (_, T, N) => decide (k < N) && am_at p0 (.fieldLink own idx ref (T k).2.1 (T k).2.2.1) && (decide ((T k).1 = ref) || am_at p1 (.sameField ref (T k).1 (T k).2.1 (T k).2.2.1)) && (decide ((T k).2.2.2 = false) || (decide ((T k).2.2.2 = true) && decide (nm = "<init>") && decide ((T k).1 = own))) && am_sob sort (parseFieldDescriptor (T k).2.2.1)
  | none => false
theorem am_pkb_ok {own nm ref : String} {sort : Int32} {idx k p0 p1 ci : Nat} (h : am_pkb own nm idx k ref sort p0 p1 ci = true) : am_pk own nm idx k ref ci sort := by
  unfold am_pkb at h
  split at h
  · rename_i C T N hc
    simp only [Bool.and_eq_true, Bool.or_eq_true, decide_eq_true_eq] at h
    obtain ⟨⟨⟨⟨h1, h2⟩, h3⟩, h4⟩, h5⟩ := h
    cases hp : parseFieldDescriptor (T k).2.2.1 with
    | none => rw [hp] at h5; cases h5
    | some ty =>
      rw [hp] at h5
      refine ⟨C, T, N, ty, hc, h1, am_at_in h2, h3.imp id am_at_in, h4.imp id (fun h => ⟨h.1.1, h.1.2, h.2⟩), hp, ?_⟩
      cases ty <;> first | (simp [am_sob] at h5; done) | (simp only [am_sob, decide_eq_true_eq] at h5; simp [h5])
  · cases h
def am_qkb (S q : am_Sg) (n p0 : Nat) : Bool := decide ((am_y q).cls ≠ "java/lang/invoke/MethodHandle") && decide ((am_y q).cls ≠ "java/lang/invoke/VarHandle") && decide ((parseMethodDescriptor (am_y q).desc).map (fun d => d.parameters.length) = some n) && decide ((am_rm q).frames + 1 ≤ (am_rm S).frames) && decide (8 + (am_l q + 11) + (am_rm q).locals ≤ (am_rm S).locals) && am_at p0 (.initialized (am_y q).cls)
theorem am_qkb_ok {S q : am_Sg} {n p0 : Nat} (h : am_qkb S q n p0 = true) : am_qk S q n := by
  simp only [am_qkb, Bool.and_eq_true, decide_eq_true_eq] at h
  exact ⟨⟨h.1.1.1.1.1, h.1.1.1.1.2, h.1.1.1.2⟩, ⟨h.1.1.2, h.1.2⟩, am_at_in h.2⟩
def am_lkb (own : String) (idx : Nat) (ref : String) (y : MethodName) (p0 : Nat) : Bool := (decide (ref = "") && am_at p0 (.methodLink own idx y)) || am_atb p0 (.methodLinkNest own idx y ref)
theorem am_lkb_ok {own ref : String} {idx p0 : Nat} {y : MethodName} (h : am_lkb own idx ref y p0 = true) : Cond.methodLink own idx y ∈ am_gw ∨ ∃ host, Cond.methodLinkNest own idx y host ∈ am_bw := by
  simp only [am_lkb, Bool.or_eq_true, Bool.and_eq_true, decide_eq_true_eq] at h
  exact h.imp (fun h => am_at_in h.2) (fun h => ⟨ref, am_atb_in h⟩)
/-- places: the callee as an instance method, the link, the selection, then the inherited name's, then its declaration -/
def am_vkb (own : String) (idx : Nat) (ref : String) (ci : Nat) (y : MethodName) (p0 p1 p2 p3 p4 : Nat) : Bool := match vwCl[ci]? with
  | some (C, _, _) => am_at p0 (.instanceMethod y) && ((decide (ref = "") && am_at p1 (.methodLink own idx y) && am_at p2 (.selects C y y)) || (match am_tbl[p3]? with
    | some (.sameMethod _ owner _ _) => am_at p1 (.methodLink own idx ⟨ref, y.name, y.desc⟩) && am_at p3 (.sameMethod ref owner y.name y.desc) && am_at p2 (.selects C ⟨ref, y.name, y.desc⟩ y) && decide (owner ≠ "java/lang/invoke/MethodHandle") && decide (owner ≠ "java/lang/invoke/VarHandle") && (decide (y = ⟨owner, y.name, y.desc⟩) || am_atb p4 (.declares ⟨owner, y.name, y.desc⟩))
    | _ => false))
  | none => false
theorem am_vkb_ok {own ref : String} {idx ci p0 p1 p2 p3 p4 : Nat} {y : MethodName} (h : am_vkb own idx ref ci y p0 p1 p2 p3 p4 = true) : am_vk own idx ref ci y := by
  unfold am_vkb at h
  split at h
  · rename_i C T N hc
    simp only [Bool.and_eq_true, Bool.or_eq_true, decide_eq_true_eq] at h
    refine ⟨C, T, N, hc, am_at_in h.1, ?_⟩
    rcases h.2 with h2 | h2
    · exact Or.inl ⟨am_at_in h2.1.2, am_at_in h2.2⟩
    · split at h2
      · rename_i owner _ _ _
        simp only [Bool.and_eq_true, Bool.or_eq_true, decide_eq_true_eq] at h2
        exact Or.inr ⟨owner, am_at_in h2.1.1.1.1.1, am_at_in h2.1.1.1.1.2, am_at_in h2.1.1.1.2, ⟨h2.1.1.2, h2.1.2⟩, h2.2.imp id am_atb_in⟩
      · cases h2
  · cases h
def am_tl (pc : Nat) : Int → List Int → List (Int32 × Nat)
  | _, [] => []
  | lo, o :: l => (Int32.ofInt lo, ((pc : Int) + o).toNat) :: am_tl pc (lo + 1) l
def am_pl (pc : Nat) : List (Int × Int) → List (Int32 × Nat)
  | [] => []
  | q :: l => (Int32.ofInt q.1, ((pc : Int) + q.2).toNat) :: am_pl pc l
def am_p (ps : List Nat) (i : Nat) : Nat := ps.getD i 0
def am_vall (S : am_Sg) (idx n : Nat) (ref : String) : List (Nat × am_Sg) → List Nat → Bool
  | [], _ => true
  | q :: l, ps => am_qkb S q.2 n (am_p ps 0) && am_vkb (am_y S).cls idx ref q.1 (am_y q.2) (am_p ps 1) (am_p ps 2) (am_p ps 3) (am_p ps 4) (am_p ps 5) && am_vall S idx n ref l (ps.drop 6)
theorem am_vall_ok {S : am_Sg} {idx n : Nat} {ref : String} : ∀ {l : List (Nat × am_Sg)} {ps : List Nat}, am_vall S idx n ref l ps = true → ∀ q ∈ l, am_qk S q.2 n ∧ am_vk (am_y S).cls idx ref q.1 (am_y q.2)
  | [], _, _, q, hq => by cases hq
  | a :: l, ps, h, q, hq => by
    simp only [am_vall, Bool.and_eq_true] at h
    rcases List.mem_cons.mp hq with rfl | hq
    · exact ⟨am_qkb_ok h.1.1, am_vkb_ok h.1.2⟩
    · exact am_vall_ok h.2 q hq
/-- the check of a row -/
def am_rkb (S : am_Sg) (pc : Nat) (w : am_Rw) : Bool := match w.1 with
  | .iconst i => decide (decode (am_c S) pc = .ok (.iconst i, 1)) && decide (Int32.ofInt i = w_v w)
  | .bipush i => decide (decode (am_c S) pc = .ok (.bipush i, 2)) && decide ((Int8.ofInt i).toInt32 = w_v w)
  | .sipush i => decide (decode (am_c S) pc = .ok (.sipush i, 3)) && decide ((Int16.ofInt i).toInt32 = w_v w)
  | .ldc i => decide (decode (am_c S) pc = .ok (.ldc i, 2)) && am_at (am_p (w_ps w) 0) (.constant (am_y S).cls i (w_v w))
  | .iinc i d => decide (decode (am_c S) pc = .ok (.iinc i d, 3)) && decide (Int32.ofInt d = w_v w)
  | .iload i => decide (decode (am_c S) pc = .ok (.iload i, 2))
  | .istore i => decide (decode (am_c S) pc = .ok (.istore i, 2))
  | .if_icmp c o => decide (decode (am_c S) pc = .ok (.if_icmp c o, 3)) && decide ((pc : Int) + o = (w_k w : Int))
  | .ifCond c o => decide (decode (am_c S) pc = .ok (.ifCond c o, 3)) && decide ((pc : Int) + o = (w_k w : Int))
  | .ifnonnull o => decide (decode (am_c S) pc = .ok (.ifnonnull o, 3)) && decide ((pc : Int) + o = (w_k w : Int))
  | .goto o => decide (decode (am_c S) pc = .ok (.goto o, 3)) && decide ((pc : Int) + o = (w_k w : Int))
  | .tableswitch d lo hi os => (match decode (am_c S) pc with
    | .ok (i, _) => decide (i = .tableswitch d lo hi os)
    | _ => false) && decide ((pc : Int) + d = (w_k w : Int)) && decide (w_sw w = am_tl pc lo os.toList) && os.toList.all (fun o => decide (0 ≤ (pc : Int) + o)) && decide (hi + 1 = lo + os.toList.length) && decide (-2147483648 ≤ lo) && decide (hi < 2147483648)
  | .lookupswitch d qs => (match decode (am_c S) pc with
    | .ok (i, _) => decide (i = .lookupswitch d qs)
    | _ => false) && decide ((pc : Int) + d = (w_k w : Int)) && decide (w_sw w = am_pl pc qs.toList) && qs.toList.all (fun o => decide (0 ≤ (pc : Int) + o.2)) && qs.toList.all (fun o => decide ((Int32.ofInt o.1).toInt = o.1)) && (qs.toList.zip (qs.toList.drop 1)).all (fun (a, next) => a.1 < next.1) && (am_pl pc qs.toList).all (fun q => (am_pl pc qs.toList).all (fun q2 => !(decide (q.1 = q2.1)) || decide (q.2 = q2.2)))
  | .getfield i => decide (decode (am_c S) pc = .ok (.getfield i, 3)) && (w_cs w).all (am_fkb (am_y S).cls i (w_k w) (w_r w) (am_p (w_ps w) 0) (am_p (w_ps w) 1))
  | .putfield i => decide (decode (am_c S) pc = .ok (.putfield i, 3)) && (w_cs w).all (am_pkb (am_y S).cls (am_y S).name i (w_k w) (w_r w) (w_v w) (am_p (w_ps w) 0) (am_p (w_ps w) 1))
  | .newarray t => decide (decode (am_c S) pc = .ok (.newarray t, 2)) && am_at (am_p (w_ps w) 0) (.arrayClass (newarray.typeOf t)) && (decide (t = .int) || decide (t = .boolean)) && decide (¬ w_v w < 0) && decide ((w_v w).toNatClampNeg = w_k w) && decide (w_k w * 8 ≤ 536870912)
  | .new i => decide (decode (am_c S) pc = .ok (.new i, 3)) && (match vwCl[w_k w]? with
    | some (C, _, N) => decide (N = (am_df (w_k w)).length) && am_at (am_p (w_ps w) 0) (.classLink (am_y S).cls i C) && am_at (am_p (w_ps w) 1) (.instantiable C (am_df (w_k w)).length) && am_at (am_p (w_ps w) 2) (.initialized C)
    | none => false)
  | .invokestatic i => decide (decode (am_c S) pc = .ok (.invokestatic i, 3)) && (match w_qs w with
    | q :: _ => am_qkb S q.2 (w_k w) (am_p (w_ps w) 0) && am_at (am_p (w_ps w) 1) (.static (am_y q.2)) && am_lkb (am_y S).cls i (w_r w) (am_y q.2) (am_p (w_ps w) 2)
    | [] => match w_cs w with
      | [] => am_at (am_p (w_ps w) 0) (.methodLink (am_y S).cls i Lib.Math.min.name) && am_at (am_p (w_ps w) 1) (.static Lib.Math.min.name) && am_at (am_p (w_ps w) 2) (.initialized "java/lang/Math") && am_at (am_p (w_ps w) 3) (.code Lib.Math.min.name Lib.Math.min.code 2 (some .int)) && decide (1 ≤ (am_rm S).frames) && decide (21 ≤ (am_rm S).locals)
      | _ => am_at (am_p (w_ps w) 0) (.methodLink (am_y S).cls i arraycopyName) && am_at (am_p (w_ps w) 1) (.native arraycopyName) && am_at (am_p (w_ps w) 2) (.static arraycopyName) && am_at (am_p (w_ps w) 3) (.initialized "java/lang/System") && decide (1 ≤ (am_rm S).frames) && decide (8 + (nativeFrameWords "java/lang/System" "arraycopy" 5 + 11) ≤ (am_rm S).locals) && decide (¬ w_v w < 0) && decide ((w_v w).toNatClampNeg = w_k w))
  | .invokevirtual i => decide (decode (am_c S) pc = .ok (.invokevirtual i, 3)) && am_vall S i (w_k w) (w_r w) (w_qs w) (w_ps w)
  | .invokespecial i => decide (decode (am_c S) pc = .ok (.invokespecial i, 3)) && (match w_qs w with
    | q :: _ => am_qkb S q.2 (w_k w) (am_p (w_ps w) 0) && am_at (am_p (w_ps w) 1) (.instanceMethod (am_y q.2)) && decide ((am_y q.2).name = "<init>") && decide (am_r q.2 = none) && am_lkb (am_y S).cls i (w_r w) (am_y q.2) (am_p (w_ps w) 2)
    | [] => am_at (am_p (w_ps w) 0) (.methodLink (am_y S).cls i Lib.objectInit) && am_at (am_p (w_ps w) 1) (.instanceMethod Lib.objectInit) && am_at (am_p (w_ps w) 2) (.code Lib.objectInit ⟨#[0xb1]⟩ 1 none) && decide (1 ≤ (am_rm S).frames) && decide (20 ≤ (am_rm S).locals))
  | i => decide (decode (am_c S) pc = .ok (i, 1))
abbrev am_Good (S : am_Sg) (cd : am_Cd) : Prop := cd.all (fun ch => ch.2.all (fun q => am_rkb S q.1 q.2)) = true
theorem am_fr_ok {pc : Nat} {q : Nat × am_Rw} : ∀ {l : List (Nat × am_Rw)}, am_fr pc l = some q → q ∈ l ∧ q.1 = pc
  | [], h => by simp [am_fr] at h
  | a :: l, h => by
    rw [am_fr] at h
    cases hb : Nat.beq a.1 pc with
    | true =>
      rw [hb] at h
      have e : a = q := by simpa using h
      rw [← e]
      exact ⟨List.mem_cons_self, Nat.eq_of_beq_eq_true hb⟩
    | false =>
      rw [hb] at h
      have := am_fr_ok (show am_fr pc l = some q by simpa using h)
      exact ⟨List.mem_cons_of_mem _ this.1, this.2⟩
theorem am_lk_ok {pc : Nat} {q : Nat × am_Rw} : ∀ {l : am_Cd}, am_lk pc l = some q → (∃ ch ∈ l, q ∈ ch.2) ∧ q.1 = pc
  | [], h => by simp [am_lk] at h
  | a :: l, h => by
    rw [am_lk] at h
    cases hb : Nat.blt pc a.1 with
    | true =>
      rw [hb] at h
      have := am_fr_ok (show am_fr pc a.2 = some q by simpa using h)
      exact ⟨⟨a, List.mem_cons_self, this.1⟩, this.2⟩
    | false =>
      rw [hb] at h
      obtain ⟨⟨ch, h1, h2⟩, h3⟩ := am_lk_ok (show am_lk pc l = some q by simpa using h)
      exact ⟨⟨ch, List.mem_cons_of_mem _ h1, h2⟩, h3⟩
theorem am_Good_row {S : am_Sg} {cd : am_Cd} (hg : am_Good S cd) {pc : Nat} {q : Nat × am_Rw} (h : am_lk pc cd = some q) : am_rkb S q.1 q.2 = true ∧ q.1 = pc := by
  obtain ⟨⟨ch, h1, h2⟩, h3⟩ := am_lk_ok h
  exact ⟨List.all_eq_true.mp (List.all_eq_true.mp hg ch h1) q h2, h3⟩
section AMS
variable {S : am_Sg} {r : Option Value} {ab' : List am_Cl} {K : am_Ps} {pc : Nat} {L rest : List Value} {ab : List am_Cl} {k n : Nat}
theorem am_go_T (hK : ∀ pc L st ab k n, K pc L st ab k n → am_T S r ab' pc L st ab k n) {t : Nat} {st : List Value} (h : am_go K (am_T S r ab') pc t L st ab k n) : am_T S r ab' t L st ab k n := by
  unfold am_go at h
  cases hb : Nat.blt pc t with
  | true => rw [hb] at h; exact hK _ _ _ _ _ _ h
  | false => rw [hb] at h; exact h
theorem am_ic_imp {c : ClassFile.Cond} {x y : Int32} {A A' B B' : Prop} (hA : A → A') (hB : B → B') (h : am_ic c x y A B) : am_ic c x y A' B' := by
  cases c <;> first | exact ⟨fun q => hA (h.1 q), fun q => hB (h.2 q)⟩ | exact ⟨fun q => hB (h.1 q), fun q => hA (h.2 q)⟩
theorem am_sw_T (hK : ∀ pc L st ab k n, K pc L st ab k n → am_T S r ab' pc L st ab k n) {d : Nat} {x : Int32} {st : List Value} : ∀ {l : List (Int32 × Nat)}, am_sw K (am_T S r ab') pc d x L st ab k n l → (∃ q ∈ l, x = q.1 ∧ am_T S r ab' q.2 L st ab k n) ∨ ((∀ q ∈ l, ¬ x = q.1) ∧ am_T S r ab' d L st ab k n)
  | [], h => Or.inr ⟨fun q hq => absurd hq List.not_mem_nil, am_go_T hK h⟩
  | a :: l, h => by
    by_cases hx : x = a.1
    · exact Or.inl ⟨a, List.mem_cons_self, hx, am_go_T hK (h.1 hx)⟩
    · rcases am_sw_T hK (h.2 hx) with ⟨q, h1, h2, h3⟩ | ⟨h1, h2⟩
      · exact Or.inl ⟨q, List.mem_cons_of_mem _ h1, h2, h3⟩
      · refine Or.inr ⟨fun q hq => ?_, h2⟩
        rcases List.mem_cons.mp hq with rfl | hq
        · exact hx
        · exact h1 q hq
theorem am_tl_mem {pc : Nat} {q : Int32 × Nat} : ∀ {os : List Int} {lo : Int}, q ∈ am_tl pc lo os → ∃ (j : Nat) (o : Int), os[j]? = some o ∧ q = (Int32.ofInt (lo + j), ((pc : Int) + o).toNat)
  | [], lo, h => by simp [am_tl] at h
  | o :: os, lo, h => by
    rw [am_tl] at h
    rcases List.mem_cons.mp h with rfl | h
    · exact ⟨0, o, rfl, by simp⟩
    · obtain ⟨j, o', h1, h2⟩ := am_tl_mem h
      exact ⟨j + 1, o', by simpa using h1, by rw [h2]; congr 2; push_cast; omega⟩
theorem am_tl_get {pc : Nat} : ∀ {os : List Int} {lo : Int} {j : Nat} {o : Int}, os[j]? = some o → (Int32.ofInt (lo + j), ((pc : Int) + o).toNat) ∈ am_tl pc lo os
  | [], lo, j, o, h => by simp at h
  | a :: os, lo, 0, o, h => by
    simp at h
    subst h
    rw [am_tl]
    simp
  | a :: os, lo, j + 1, o, h => by
    rw [am_tl]
    have := am_tl_get (pc := pc) (lo := lo + 1) (show os[j]? = some o by simpa using h)
    refine List.mem_cons_of_mem _ ?_
    have e : lo + 1 + (j : Int) = lo + ((j + 1 : Nat) : Int) := by push_cast; omega
    rw [e] at this
    exact this
theorem am_toInt {z : Int} (h1 : -2147483648 ≤ z) (h2 : z < 2147483648) : (Int32.ofInt z).toInt = z := Int32.toInt_ofInt_of_le h1 h2
theorem am_t_table {d lo hi : Int} {os : Array Int} {len : Nat} {x : Int32} {t : Nat} {sw : List (Int32 × Nat)} (hd : decode (am_c S) pc = .ok (.tableswitch d lo hi os, len)) (ht : (pc : Int) + d = (t : Int)) (hsw : sw = am_tl pc lo os.toList) (hpos : ∀ o ∈ os.toList, 0 ≤ (pc : Int) + o) (hhi : hi + 1 = lo + os.toList.length) (h1 : -2147483648 ≤ lo) (h2 : hi < 2147483648)
    (h : (∃ q ∈ sw, x = q.1 ∧ am_T S r ab' q.2 L rest ab k n) ∨ ((∀ q ∈ sw, ¬ x = q.1) ∧ am_T S r ab' t L rest ab k n)) : am_T S r ab' pc L (.int x :: rest) ab k n := by
  intro l D cI cZ b p e s m args below meth c H locs ls hC hH hS hL hlen
  subst hsw
  rcases h with ⟨q, hq, hx, hk⟩ | ⟨hne, hk⟩
  · obtain ⟨j, o, hj, rfl⟩ := am_tl_mem hq
    have hjl : j < os.toList.length := (List.getElem?_eq_some_iff.mp hj).1
    have hxi : x.toInt = lo + j := by rw [hx]; exact am_toInt (by omega) (by omega)
    have ho : 0 ≤ (pc : Int) + o := hpos o (List.mem_of_getElem? hj)
    refine lv_tableIn (tgt := ((pc : Int) + o).toNat) (off := o) hC.1 hC.2.1 hd (by omega) (by omega) ?_ (by omega) (hk l D cI cZ b p e s m args below meth c H locs ls hC hH hS hL hlen)
    rw [hxi, show (lo + (j : Int) - lo).toNat = j by omega, ← Array.getElem?_toList]
    exact hj
  · refine lv_tableOut (tgt := t) hC.1 hC.2.1 hd ?_ ht (hk l D cI cZ b p e s m args below meth c H locs ls hC hH hS hL hlen)
    rcases Int.lt_or_le x.toInt lo with g | g
    · exact Or.inl g
    · rcases Int.lt_or_le hi x.toInt with g2 | g2
      · exact Or.inr g2
      · exfalso
        have hlt : (x.toInt - lo).toNat < os.toList.length := by omega
        have := am_tl_get (pc := pc) (lo := lo) (List.getElem?_eq_getElem hlt)
        refine hne _ this ?_
        show x = Int32.ofInt (lo + ((x.toInt - lo).toNat : Int))
        rw [show lo + ((x.toInt - lo).toNat : Int) = x.toInt by omega]
        exact (Int32.ofInt_toInt x).symm
theorem am_off {pc t : Nat} {d : Int} {x : Int32} {P : Nat → Prop} (ht : (pc : Int) + d = (t : Int)) : ∀ {qs : List (Int × Int)}, (∀ o ∈ qs, 0 ≤ (pc : Int) + o.2) → (∀ o ∈ qs, (Int32.ofInt o.1).toInt = o.1) → ((∃ q ∈ am_pl pc qs, x = q.1 ∧ P q.2) ∨ ((∀ q ∈ am_pl pc qs, ¬ x = q.1) ∧ P t)) → (∀ q q2 : Int32 × Nat, q ∈ am_pl pc qs → q2 ∈ am_pl pc qs → q.1 = q2.1 → q.2 = q2.2) → ∃ (off : Int) (tg : Nat), Op.lookupswitch.offset qs d x.toInt = off ∧ (pc : Int) + off = (tg : Int) ∧ P tg
  | [], _, _, h, _ => by
    rcases h with ⟨q, hq, -⟩ | ⟨-, h⟩
    · simp [am_pl] at hq
    · exact ⟨d, t, rfl, ht, h⟩
  | a :: qs, h1, h2, h, hu => by
    by_cases hx : x = Int32.ofInt a.1
    · refine ⟨a.2, ((pc : Int) + a.2).toNat, ?_, ?_, ?_⟩
      · obtain ⟨a1, a2⟩ := a
        rw [Op.lookupswitch.offset_cons, if_pos]
        rw [hx]
        exact (h2 (a1, a2) List.mem_cons_self).symm
      · have := h1 a List.mem_cons_self
        omega
      · rcases h with ⟨q, hq, hxq, hp⟩ | ⟨hne, -⟩
        · have e := hu q (Int32.ofInt a.1, ((pc : Int) + a.2).toNat) hq (by rw [am_pl]; exact List.mem_cons_self) (by rw [← hxq]; exact hx)
          exact (show q.2 = ((pc : Int) + a.2).toNat from e) ▸ hp
        · exact absurd hx (hne (Int32.ofInt a.1, ((pc : Int) + a.2).toNat) (by rw [am_pl]; exact List.mem_cons_self))
    · obtain ⟨off, tg, g1, g2, g3⟩ := am_off ht (qs := qs) (fun o ho => h1 o (List.mem_cons_of_mem _ ho)) (fun o ho => h2 o (List.mem_cons_of_mem _ ho)) (by
        rcases h with ⟨q, hq, hxq, hp⟩ | ⟨hne, hp⟩
        · rw [am_pl] at hq
          rcases List.mem_cons.mp hq with rfl | hq
          · exact absurd hxq hx
          · exact Or.inl ⟨q, hq, hxq, hp⟩
        · exact Or.inr ⟨fun q hq => hne q (by rw [am_pl]; exact List.mem_cons_of_mem _ hq), hp⟩) (fun q q2 g1 g2 => hu q q2 (by rw [am_pl]; exact List.mem_cons_of_mem _ g1) (by rw [am_pl]; exact List.mem_cons_of_mem _ g2))
      refine ⟨off, tg, ?_, g2, g3⟩
      obtain ⟨a1, a2⟩ := a
      rw [lv_osw hx (h2 (a1, a2) List.mem_cons_self)]
      exact g1
end AMS

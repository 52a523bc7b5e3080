/-! soundness of the small machine: calls -/
theorem am_after {p : Program} {l : Launch} {e : Env} {R : Room} {s : State} {m : MethodId} {args : Array Value} {below : List Frame} {meth : Method} {c : Code} {H : Heap} {locs : List Loc} {k n : Nat} {Q : State → Prop} {pc : Nat} {ls : Array Slot} {st0 rest : List Value} {mc ms : Nat} {D : va_G} {cI cZ : ClassId} {b : Nat} {v : Option Value} {ab1 : List am_Cl} {a : Array Value}
    (hr : va_Run p l e R s m args below meth c H locs k n mc ms (F0 m pc ls st0) rest (am_Q D cI cZ b v ab1 a) (fun q => b ≤ q)) (hS : va_S (fun q => b ≤ q) s.heap H locs)
    (kk : ∀ (H1 : Heap) (locs1 : List Loc), am_H D cI cZ b ab1 H1 → va_S (fun q => b ≤ q) s.heap H1 locs1 → W p l e R s m args below meth c H1 locs1 (k + mc) (n + ms) Q (F0 m (pc + 3) ls ((v.map (am_v b)).toList ++ rest))) : W p l e R s m args below meth c H locs k n Q (F0 m pc ls st0) := by
  intro T hT X
  obtain ⟨v0, st₀, t, T', L, h0, X', hL, e1, e2, ⟨hv, hH1, hz, hk⟩, st⟩ := hr T hT X
  have hv0 : v0 = v.map (am_v b) := Outcome.returned.inj hv
  subst hv0
  rw [h0] at hz hk
  obtain ⟨t2, a1, b1⟩ := kk T'.heap (locs ++ L) (by rw [e1]; exact hH1)
    ⟨Nat.le_trans hS.1 (by rw [e1]; exact hz), fun q h1 h2 => by rw [e1, hk q (Nat.lt_of_lt_of_le h1 hS.1) h2]; exact hS.2.1 q h1 h2, fun q hq => by
      rcases List.mem_append.mp hq with h | h
      · exact hS.2.2 q h
      · exact hL q h⟩ T' rfl X'
  exact ⟨t2, st t2 a1, b1⟩
theorem am_blind (D : va_G) (cI cZ : ClassId) (b : Nat) (as : List Value) (ab : List am_Cl) : FrameBlind (fun a U => a = (as.map (am_v b)).toArray ∧ am_H D cI cZ b ab U.heap ∧ am_K D cI cZ U) := fun a U g mk h => ⟨h.1, h.2.1, am_K_call (U := U) (V := U.calling g mk a) rfl h.2.2⟩
/-- what is asked of a callee, apart from how it is named -/
def am_qk (S q : am_Sg) (n : Nat) : Prop := ((am_y q).cls ≠ "java/lang/invoke/MethodHandle" ∧ (am_y q).cls ≠ "java/lang/invoke/VarHandle" ∧ (parseMethodDescriptor (am_y q).desc).map (fun d => d.parameters.length) = some n) ∧ ((am_rm q).frames + 1 ≤ (am_rm S).frames ∧ 8 + (am_l q + 11) + (am_rm q).locals ≤ (am_rm S).locals) ∧ Cond.initialized (am_y q).cls ∈ am_gw
section AMC
variable {S q : am_Sg} {r : Option Value} {ab' : List am_Cl} {pc : Nat} {L rest as : List Value} {ab ab1 : List am_Cl} {k n idx : Nat} {v : Option Value}
theorem am_stk (b : Nat) (v : Option Value) (rest : List Value) : (v.map (am_v b)).toList ++ rest.map (am_v b) = (v.toList ++ rest).map (am_v b) := by cases v <;> rfl
theorem am_room8 {m : MethodId} {ls : Array Slot} {st : List Value} (b : Nat) (h : am_ct rest ≤ 8) : 2 * (F0 m pc ls st).monitorRoom + ((rest.map (am_v b)).map fun v => v.category).sum ≤ 8 := by
  rw [am_ct_eq]
  show 2 * 0 + _ ≤ 8
  omega
theorem am_t_static (hd : decode (am_c S) pc = .ok (.invokestatic idx, 3)) (hE : am_Ev q as ab v ab1) (hq : am_qk S q as.length) (hst : Cond.static (am_y q) ∈ am_gw) (hl : Cond.methodLink (am_y S).cls idx (am_y q) ∈ am_gw ∨ ∃ host, Cond.methodLinkNest (am_y S).cls idx (am_y q) host ∈ am_bw) (h8 : am_ct rest ≤ 8) (h1 : k + (am_rm q).cells ≤ (am_rm S).cells) (h2 : n + (am_rm q).slots ≤ (am_rm S).slots)
    (hk : am_T S r ab' (pc + 3) L (v.toList ++ rest) ab1 (k + (am_rm q).cells) (n + (am_rm q).slots)) : am_T S r ab' pc L (as.reverse ++ rest) ab k n := by
  intro l D cI cZ b p e s m args below meth c H locs ls hC hH hS hL hlen
  have hts := hC.2.2.2.2.2.2.2.1
  have hKs := hC.2.2.2.2.2.2.2.2.1
  have hp : PreS s H (fun a U => a = (as.map (am_v b)).toArray ∧ am_H D cI cZ b ab U.heap ∧ am_K D cI cZ U) (as.map (am_v b)) := ⟨am_blind D cI cZ b as ab, fun U hU hW => ⟨rfl, by rw [hU]; exact hH, am_K_warm hW hKs⟩⟩
  have fin : ∀ (H1 : Heap) (locs1 : List Loc), am_H D cI cZ b ab1 H1 → va_S (fun q => b ≤ q) s.heap H1 locs1 → W p l e (am_rm S) s m args below meth c H1 locs1 (k + (am_rm q).cells) (n + (am_rm q).slots) (MQ below (am_Q D cI cZ b r ab') args s (am_rm S).cells (am_rm S).slots (fun q => b ≤ q)) (F0 m (pc + 3) ls ((v.map (am_v b)).toList ++ rest.map (am_v b))) := by
    intro H1 locs1 g1 g2
    rw [am_stk]
    exact hk l D cI cZ b p e s m args below meth c H1 locs1 ls hC g1 g2 hL hlen
  rcases hl with hl | ⟨host, hl⟩
  · exact am_after (va_runS (As := as.map (am_v b)) (rest := rest.map (am_v b)) (nL := am_l S) (Ts := am_gw) ⟨hC.1, hC.2.1, hC.2.2.2.2.1, hC.2.2.2.2.2.1, hts⟩ (hE.2 l D cI cZ b) ⟨callB_of as.length hts (am_good hE.1) rfl rfl rfl (hts _ hq.2.2) (hts _ hl) hq.1 hq.2.1, hts _ hst⟩ hp rfl (by simp) hL.1 (by simp [List.map_reverse]) (am_room8 b h8) hd ⟨h1, h2⟩) hS fin
  · exact am_after (va_runSN (host := host) (As := as.map (am_v b)) (rest := rest.map (am_v b)) (nL := am_l S) (Ts := am_gw) ⟨hC.1, hC.2.1, hC.2.2.2.2.1, hC.2.2.2.2.2.1, hts⟩ (hE.2 l D cI cZ b) ⟨va_cnB as.length hts (am_good hE.1) rfl rfl rfl (hKs.2 _ hl) (hts _ hq.2.2) hq.1 hq.2.1, hts _ hst, trivial⟩ hp rfl (by simp) hL.1 (by simp [List.map_reverse]) (am_room8 b h8) hd ⟨h1, h2⟩) hS fin
theorem am_t_special {i : Nat} (hd : decode (am_c S) pc = .ok (.invokespecial idx, 3)) (hE : am_Ev q (.ref i :: as) ab v ab1) (hq : am_qk S q as.length) (hin : Cond.instanceMethod (am_y q) ∈ am_gw) (hnm : (am_y q).name = "<init>") (hrt : am_r q = none) (hl : Cond.methodLink (am_y S).cls idx (am_y q) ∈ am_gw ∨ ∃ host, Cond.methodLinkNest (am_y S).cls idx (am_y q) host ∈ am_bw) (h8 : am_ct rest ≤ 8) (h1 : k + (am_rm q).cells ≤ (am_rm S).cells) (h2 : n + (am_rm q).slots ≤ (am_rm S).slots)
    (hk : am_T S r ab' (pc + 3) L (v.toList ++ rest) ab1 (k + (am_rm q).cells) (n + (am_rm q).slots)) : am_T S r ab' pc L (as.reverse ++ .ref i :: rest) ab k n := by
  intro l D cI cZ b p e s m args below meth c H locs ls hC hH hS hL hlen
  obtain ⟨y, cc, ml, rt, rm⟩ := q
  have hrt : rt = none := hrt
  subst hrt
  have hts := hC.2.2.2.2.2.2.2.1
  have hKs := hC.2.2.2.2.2.2.2.2.1
  have hp : PreS s H (fun a U => a = ((Value.ref i :: as).map (am_v b)).toArray ∧ am_H D cI cZ b ab U.heap ∧ am_K D cI cZ U) (.ref (b + i) :: as.map (am_v b)) := ⟨am_blind D cI cZ b (.ref i :: as) ab, fun U hU hW => ⟨rfl, by rw [hU]; exact hH, am_K_warm hW hKs⟩⟩
  have fin : ∀ (H1 : Heap) (locs1 : List Loc), am_H D cI cZ b ab1 H1 → va_S (fun q => b ≤ q) s.heap H1 locs1 → W p l e (am_rm S) s m args below meth c H1 locs1 (k + rm.cells) (n + rm.slots) (MQ below (am_Q D cI cZ b r ab') args s (am_rm S).cells (am_rm S).slots (fun q => b ≤ q)) (F0 m (pc + 3) ls ((v.map (am_v b)).toList ++ rest.map (am_v b))) := by
    intro H1 locs1 g1 g2
    rw [am_stk]
    exact hk l D cI cZ b p e s m args below meth c H1 locs1 ls hC g1 g2 hL hlen
  rcases hl with hl | ⟨host, hl⟩
  · exact am_after (va_runI (As := as.map (am_v b)) (b := b + i) (rest := rest.map (am_v b)) (nL := am_l S) (Ts := am_gw) ⟨hC.1, hC.2.1, hC.2.2.2.2.1, hC.2.2.2.2.2.1, hts⟩ (hE.2 l D cI cZ b) ⟨callB_of as.length hts (am_good hE.1) rfl rfl rfl (hts _ hq.2.2) (hts _ hl) hq.1 hq.2.1, hnm, hts _ hin⟩ hp rfl (by simp) hL.1 (by simp [List.map_reverse, am_v]) (am_room8 b h8) hd ⟨h1, h2⟩) hS fin
  · exact am_after (va_runIN (host := host) (As := as.map (am_v b)) (b := b + i) (rest := rest.map (am_v b)) (nL := am_l S) (Ts := am_gw) ⟨hC.1, hC.2.1, hC.2.2.2.2.1, hC.2.2.2.2.2.1, hts⟩ (hE.2 l D cI cZ b) ⟨va_cnB as.length hts (am_good hE.1) rfl rfl rfl (hKs.2 _ hl) (hts _ hq.2.2) hq.1 hq.2.1, hnm, hts _ hin⟩ hp rfl (by simp) hL.1 (by simp [List.map_reverse, am_v]) (am_room8 b h8) hd ⟨h1, h2⟩) hS fin
/-- how a virtual call names its callee, for a receiver of class ci: itself, or by an inherited name -/
def am_vk (own : String) (idx : Nat) (ref : String) (ci : Nat) (y : MethodName) : Prop := ∃ (C : String) (T : u_T) (N : Nat), vwCl[ci]? = some (C, T, N) ∧ Cond.instanceMethod y ∈ am_gw ∧
  ((Cond.methodLink own idx y ∈ am_gw ∧ Cond.selects C y y ∈ am_gw) ∨ ∃ owner : String, Cond.methodLink own idx ⟨ref, y.name, y.desc⟩ ∈ am_gw ∧ Cond.sameMethod ref owner y.name y.desc ∈ am_gw ∧ Cond.selects C ⟨ref, y.name, y.desc⟩ y ∈ am_gw ∧ (owner ≠ "java/lang/invoke/MethodHandle" ∧ owner ≠ "java/lang/invoke/VarHandle") ∧ (y = ⟨owner, y.name, y.desc⟩ ∨ Cond.declares ⟨owner, y.name, y.desc⟩ ∈ am_bw))
theorem am_t_virtual {i ci : Nat} {ref : String} {fs : List Value} (hd : decode (am_c S) pc = .ok (.invokevirtual idx, 3)) (hE : am_Ev q (.ref i :: as) ab v ab1) (hq : am_qk S q as.length) (hV : am_vk (am_y S).cls idx ref ci (am_y q)) (hc : am_ls ab i = some (.inr (ci, fs))) (h8 : am_ct rest ≤ 8) (h1 : k + (am_rm q).cells ≤ (am_rm S).cells) (h2 : n + (am_rm q).slots ≤ (am_rm S).slots)
    (hk : am_T S r ab' (pc + 3) L (v.toList ++ rest) ab1 (k + (am_rm q).cells) (n + (am_rm q).slots)) : am_T S r ab' pc L (as.reverse ++ .ref i :: rest) ab k n := by
  intro l D cI cZ b p e s m args below meth c H locs ls hC hH hS hL hlen
  obtain ⟨C, T, N, hc0, hin, hV⟩ := hV
  have hts := hC.2.2.2.2.2.2.2.1
  have hKs := hC.2.2.2.2.2.2.2.2.1
  have hrecv := va_recv (q := (C, T, N)) hKs.1 (am_P hH) hc0 (am_ws_at (by rw [← am_ls_eq]; exact hc))
  have hp : PreV s H C (b + i) (fun a U => a = ((Value.ref i :: as).map (am_v b)).toArray ∧ am_H D cI cZ b ab U.heap ∧ am_K D cI cZ U) (as.map (am_v b)) := ⟨am_blind D cI cZ b (.ref i :: as) ab, hrecv, fun U hU hW => ⟨rfl, by rw [hU]; exact hH, am_K_warm hW hKs⟩⟩
  have fin : ∀ (H1 : Heap) (locs1 : List Loc), am_H D cI cZ b ab1 H1 → va_S (fun q => b ≤ q) s.heap H1 locs1 → W p l e (am_rm S) s m args below meth c H1 locs1 (k + (am_rm q).cells) (n + (am_rm q).slots) (MQ below (am_Q D cI cZ b r ab') args s (am_rm S).cells (am_rm S).slots (fun q => b ≤ q)) (F0 m (pc + 3) ls ((v.map (am_v b)).toList ++ rest.map (am_v b))) := by
    intro H1 locs1 g1 g2
    rw [am_stk]
    exact hk l D cI cZ b p e s m args below meth c H1 locs1 ls hC g1 g2 hL hlen
  rcases hV with ⟨hl, hse⟩ | ⟨owner, hl, hsm, hse, hmh, hdc⟩
  · exact am_after (va_runV (As := as.map (am_v b)) (b := b + i) (rest := rest.map (am_v b)) (nL := am_l S) (Ts := am_gw) ⟨hC.1, hC.2.1, hC.2.2.2.2.1, hC.2.2.2.2.2.1, hts⟩ (hE.2 l D cI cZ b) ⟨callB_of as.length hts (am_good hE.1) rfl rfl rfl (hts _ hq.2.2) (hts _ hl) hq.1 hq.2.1, hts _ hin, hts _ hse⟩ hp rfl (by simp) hL.1 (by simp [List.map_reverse, am_v]) (am_room8 b h8) hd ⟨h1, h2⟩) hS fin
  · have hdecl : va_Decl s ⟨owner, (am_y q).name, (am_y q).desc⟩ := by
      rcases hdc with h | h
      · rw [← h]; exact va_Decl.of (hts _ hin) (hts _ hE.1)
      · exact va_Decl.abs (hKs.2 _ h)
    have hcu : va_CU (am_rm S) s args (am_y S).cls C owner idx ⟨ref, (am_y q).name, (am_y q).desc⟩ (am_y q) (am_c q) (am_l q) (am_r q) (am_cw q :: am_gw) (am_rm q) (am_rm q).cells (am_rm q).slots as.length := by
      refine ⟨⟨rfl, rfl, hq.2.1.1, hq.2.1.2, pay_in hts (am_good hE.1), List.mem_cons_self⟩, hts _ hE.1, hts _ hq.2.2, hmh, fun sig h => ?_, hts _ hl, hts _ hsm, hdecl, hts _ hse, hts _ hin⟩
      have h2 := hq.1.2.2
      have h : parseMethodDescriptor (am_y q).desc = some sig := h
      rw [h] at h2
      exact (Option.some.inj h2).symm
    exact am_after (va_runU (As := as.map (am_v b)) (b := b + i) (rest := rest.map (am_v b)) (nL := am_l S) (Ts := am_gw) ⟨hC.1, hC.2.1, hC.2.2.2.2.1, hC.2.2.2.2.2.1, hts⟩ (hE.2 l D cI cZ b) hcu hp rfl (by simp) hL.1 (by simp [List.map_reverse, am_v]) (am_room8 b h8) hd ⟨h1, h2⟩) hS fin
theorem am_t_copy {N n0 n1 a0 a1 : Nat} {cn : Int32} {f g : Nat → Int32} (hd : decode (am_c S) pc = .ok (.invokestatic idx, 3)) (hl : Cond.methodLink (am_y S).cls idx arraycopyName ∈ am_gw) (hnat : Cond.native arraycopyName ∈ am_gw) (hst : Cond.static arraycopyName ∈ am_gw) (hini : Cond.initialized "java/lang/System" ∈ am_gw) (hf : 1 ≤ (am_rm S).frames) (ho : 8 + (nativeFrameWords "java/lang/System" "arraycopy" 5 + 11) ≤ (am_rm S).locals) (h8 : am_ct rest ≤ 8) (hn : ¬ cn < 0) (hN : cn.toNatClampNeg = N)
    (hc0 : am_ls ab a0 = some (.inl (false, n0, f))) (hc1 : am_ls ab a1 = some (.inl (false, n1, g))) (h4 : N ≤ n0) (h5 : N ≤ n1) (hk : am_T S r ab' (pc + 3) L rest (am_up ab a1 (.inl (false, n1, va_cpy f g 0 0 N))) k n) : am_T S r ab' pc L (.int cn :: .int 0 :: .ref a1 :: .int 0 :: .ref a0 :: rest) ab k n := by
  intro l D cI cZ b p e s m args below meth c H locs ls hC hH hS hL hlen
  have hts := hC.2.2.2.2.2.2.2.1
  have hKv := hC.2.2.2.2.2.2.2.2.1.1
  have nn : ∀ z : Int32, ¬ z < 0 → z.toInt = (z.toNatClampNeg : Int) := by
    intro z hz
    have hz0 : (0 : Int) ≤ z.toInt := by
      have := Int32.not_lt.mp hz
      simpa using Int32.le_iff_toInt_le.mp this
    show z.toInt = ((z.toInt.toNat : Nat) : Int)
    omega
  intro T hT X
  have e0 : H[b + a0]? = some (vp_cell cI (n0, .inl f)) := am_P hH a0 _ (am_ws_at (c := .inl (false, n0, f)) (by rw [← am_ls_eq]; exact hc0))
  have e1 : H[b + a1]? = some (vp_cell cI (n1, .inl g)) := am_P hH a1 _ (am_ws_at (c := .inl (false, n1, g)) (by rw [← am_ls_eq]; exact hc1))
  obtain ⟨-, k0, hk0, cm0, hkk0⟩ := (hKv.2 0 _ rfl).1 n0 (fun j => .int (f j))
  obtain ⟨-, k1, hk1, cm1, hkk1⟩ := (hKv.2 0 _ rfl).1 n1 (fun j => .int (g j))
  have z0 : ¬ (0 : Int32) < 0 := by decide
  have zc : (0 : Int32).toNatClampNeg = 0 := rfl
  obtain ⟨vm', X', step⟩ := X.arraycopy hC.1 hC.2.2.2.2.2.1 (hts _ hl) (hts _ hnat) (hts _ hst) (hts _ hini) (src := b + a0) (dst := b + a1) (cs := vp_cell cI (n0, .inl f)) (cd := vp_cell cI (n1, .inl g)) (srcPos := 0) (destPos := 0) (n := cn) (by rw [hT]; exact e0) (by rw [hT]; exact e1)
    (fun _ h => by cases h) (fun _ h => by cases h) (fun h => by cases h) (fun h => by cases h) hk0 hk1 hkk0 hkk1 (by simp [refKind]) z0 z0 hn
    (by rw [nn 0 z0, nn cn hn]; show ¬ _ > ((arrV cI n0 (fun j => .int (f j))).slots.size : Int); rw [arrV_size, zc, hN]; omega)
    (by rw [nn 0 z0, nn cn hn]; show ¬ _ > ((arrV cI n1 (fun j => .int (g j))).slots.size : Int); rw [arrV_size, zc, hN]; omega)
    (fun vm₁ _ i hi => by
      have e : (vp_cell cI (n0, .inl f)).slots.getD ((0 : Int32).toNatClampNeg + i) .null = .int (f ((0 : Int32).toNatClampNeg + i)) := by
        show (arrV cI n0 (fun j => .int (f j))).slots.getD _ _ = _
        rw [Array.getD_eq_getD_getElem?, arrV_read _ _ (by rw [hN] at hi; rw [zc]; omega)]
        rfl
      refine ⟨?_, ?_⟩
      · rw [e]
        rfl
      · rw [e]
        exact trivial)
    (g := F0 m pc ls (.int cn :: .int 0 :: .ref (b + a1) :: .int 0 :: .ref (b + a0) :: rest.map (am_v b))) rfl (by rw [hC.2.2.2.2.1]; exact hL.1) (rest := rest.map (am_v b)) rfl (by rw [hC.2.1]; exact hd) hf (by have := am_ct_eq b rest; show 2 * 0 + _ + _ ≤ _; rw [this]; omega)
  have e2 : copied (vp_cell cI (n0, .inl f)) (vp_cell cI (n1, .inl g)) 0 0 cn = vp_cell cI (n1, .inl (va_cpy f g 0 0 N)) := by
    have h := va_copied (n1 := n1) (sp := 0) (dp := 0) (n := cn.toNatClampNeg) (fun z => Value.int z) cI cI f g (n0 := n0) (by rw [hN]; omega)
    rw [← hN]
    exact h
  rw [e2] at X' step
  have hl2 : b + a1 < H.size := (Array.getElem?_eq_some_iff.mp e1).1
  have hheap : ((T.setVm vm').setCell (b + a1) (vp_cell cI (n1, .inl (va_cpy f g 0 0 N)))).heap = H.setIfInBounds (b + a1) (vp_cell cI (n1, .inl (va_cpy f g 0 0 N))) := by rw [← hT]; rfl
  have oq : ∀ q : Nat, q ≠ b + a1 → (H.setIfInBounds (b + a1) (vp_cell cI (n1, .inl (va_cpy f g 0 0 N))))[q]? = H[q]? := fun q hq => by simp [Array.getElem?_setIfInBounds, Ne.symm hq]
  have hz1 : (H.setIfInBounds (b + a1) (vp_cell cI (n1, .inl (va_cpy f g 0 0 N)))).size = H.size := by simp
  obtain ⟨t, g1, g2⟩ := hk l D cI cZ b p e s m args below meth c _ _ ls hC (am_H_set hH hc1 hz1 (show (H.setIfInBounds (b + a1) _)[b + a1]? = some _ by simp [Array.getElem?_setIfInBounds, hl2]) oq) ⟨by rw [hz1]; exact hS.1, fun q g1 g2 => by
      rw [oq q (fun e => g2 (by rw [e]; exact Nat.le_add_right b a1))]
      exact hS.2.1 q g1 g2, fun q hq => by
      rcases List.mem_append.mp hq with h | h
      · exact hS.2.2 q h
      · obtain ⟨z, -, hz⟩ := List.mem_map.mp h
        rw [← hz]
        exact Nat.le_add_right b a1⟩ hL hlen _ hheap X'
  exact ⟨t, step t g1, g2⟩
end AMC

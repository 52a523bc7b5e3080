/-! the law's own instructions over the small machine's worlds -/
theorem am_sel_priv {C : String} {y : MethodName} {s : State} {args : Array Value} {n : Nat} (hy : y.cls ≠ "java/lang/invoke/MethodHandle" ∧ y.cls ≠ "java/lang/invoke/VarHandle")
    (hins : (Cond.instantiable C n).before args s = true) (hpriv : (Cond.privateMethod y).before args s = true) (hinst : (Cond.instanceMethod y).before args s = true) (hsm : (Cond.sameMethod y.cls y.cls y.name y.desc).before args s = true) :
    (Cond.selects C y y).before args s = true := by
  obtain ⟨c, k, hc, hk, -, hniab, -, -⟩ := Cond.instantiable_spec hins
  have hni : k.isInterface = false := (Bool.or_eq_false_iff.mp hniab).1
  obtain ⟨mk, methM, hnamed, hmethM, -, -⟩ := Cond.instanceMethod_spec hinst
  have hfound : s.methodFound? y.cls y.name y.desc = some mk := State.methodFound?_of_named hnamed hy
  obtain ⟨kP, hkP, -⟩ := className_of_methodNamed hnamed
  have hsel : selectMethod {} s.vm c mk = .method mk := selectMethod_private hmethM (Cond.privateMethod_at hpriv mk methM hnamed hmethM)
  simp only [Cond.before, Cond.holds, Cond.value, hc, hfound, hnamed, hsel, hk, hkP]
  obtain ⟨cn, ck, r1, hcn, hck, hni2, -, -⟩ := Cond.sameMethod_found hsm
  have e1 : cn = mk.cls := Option.some.inj (hcn.symm.trans (findClass_of_methodNamed hnamed))
  rw [e1] at hck
  have e2 : ck = kP := Option.some.inj (hck.symm.trans hkP)
  rw [e2] at hni2
  simp [hni2]
theorem am_gw_ok {args : Array Value} {s : State} (hts : ∀ w ∈ lw_tbl, w.before args s = true) : ∀ w ∈ am_gw, w.before args s = true := by
  intro w hw
  have h1 := (List.mem_filter.mp hw).1
  rcases List.mem_append.mp h1 with h | h
  · exact hts w h
  · have hp : (Cond.privateMethod yX8_forgetAll).before args s = true := hts _ (by decide +kernel)
    have hi : (Cond.instanceMethod yX8_forgetAll).before args s = true := hts _ (by decide +kernel)
    have hq : (Cond.sameMethod yX8_forgetAll.cls yX8_forgetAll.cls yX8_forgetAll.name yX8_forgetAll.desc).before args s = true := hts _ (by decide +kernel)
    rcases List.mem_cons.mp h with rfl | h
    · exact am_sel_priv (n := 9) ⟨by decide, by decide⟩ (hts _ (by decide +kernel)) hp hi hq
    · rcases List.mem_cons.mp h with rfl | h
      · exact am_sel_priv (n := 9) ⟨by decide, by decide⟩ (hts _ (by decide +kernel)) hp hi hq
      · cases h
theorem am_bw_ok {args : Array Value} {s : State} (hts : ∀ w ∈ lw_tbl, w.before args s = true) : ∀ w ∈ am_bw, va_Nw w s := by
  intro w hw
  have h1 := (List.mem_filter.mp hw).1
  rcases List.mem_append.mp h1 with h | h
  · exact va_Nw.of (am_bw_tab hw) (hts w h)
  · have h2 := (List.mem_filter.mp hw).2
    rcases List.mem_cons.mp h with rfl | h
    · cases h2
    · rcases List.mem_cons.mp h with rfl | h
      · cases h2
      · cases h
theorem am_arr {args : Array Value} {s : State} {ty : FieldType} (h : (Cond.arrayClass ty).before args s = true) : ∃ cA : ClassId, ArrOfT s cA ty ∧ s.vm.findClass ("[" ++ ty.toString) = some cA := by
  obtain ⟨cA, kA, comp, h1, h2, h3⟩ := Cond.arrayClass_spec h
  exact ⟨cA, fun n z => ⟨fun k h => (by cases h), kA, h2, comp, h3⟩, h1⟩
theorem am_K_law {args : Array Value} {s : State} (hts : ∀ w ∈ lw_tbl, w.before args s = true) : ∃ (D : va_G) (cI cZ : ClassId), am_K D cI cZ s := by
  have hg := am_gw_ok hts
  obtain ⟨cI, hI, nI'⟩ := am_arr (ty := .int) (hts _ (by decide +kernel))
  obtain ⟨cZ, hZ, nZ⟩ := am_arr (ty := .boolean) (hts _ (by decide +kernel))
  obtain ⟨k0, s0, K0⟩ := u_known (C := RX0) (T := TX0) (N := 5) (n := 5) hg (am_inOf am_in0) (hts (.instantiable RX0 5) (by decide +kernel))
  obtain ⟨k1, s1, K1⟩ := u_known (C := RX1) (T := TX1) (N := 2) (n := 2) hg (am_inOf am_in1) (hts (.instantiable RX1 2) (by decide +kernel))
  obtain ⟨k2, s2, K2⟩ := u_known (C := RX3) (T := TX3) (N := 2) (n := 2) hg (am_inOf am_in3) (hts (.instantiable RX3 2) (by decide +kernel))
  obtain ⟨k3, s3, K3⟩ := u_known (C := RX5) (T := TX5) (N := 9) (n := 9) hg (am_inOf am_in5) (hts (.instantiable RX5 9) (by decide +kernel))
  obtain ⟨k4, s4, K4⟩ := u_known (C := RX6) (T := TX6) (N := 8) (n := 8) hg (am_inOf am_in6) (hts (.instantiable RX6 8) (by decide +kernel))
  obtain ⟨k5, s5, K5⟩ := u_known (C := RX7) (T := TX7) (N := 3) (n := 3) hg (am_inOf am_in7) (hts (.instantiable RX7 3) (by decide +kernel))
  obtain ⟨k6, s6, K6⟩ := u_known (C := RX9) (T := TX9) (N := 9) (n := 9) hg (am_inOf am_in9) (hts (.instantiable RX9 9) (by decide +kernel))
  obtain ⟨k7, s7, K7⟩ := u_known (C := RX10) (T := TX10) (N := 9) (n := 9) hg (am_inOf am_in10) (hts (.instantiable RX10 9) (by decide +kernel))
  obtain ⟨k8, s8, K8⟩ := u_known (C := RX11) (T := TX11) (N := 28) (n := 28) hg (am_inOf am_in11) (hts (.instantiable RX11 28) (by decide +kernel))
  refine ⟨(fun k => [k0, k1, k2, k3, k4, k5, k6, k7, k8].getD k k0, fun k => [s0, s1, s2, s3, s4, s5, s6, s7, s8].getD k s0), cI, cZ, ⟨?_, ?_⟩, am_bw_ok hts⟩
  · intro k q hq
    match k, hq with
    | 0, hq => cases hq; exact K0
    | 1, hq => cases hq; exact K1
    | 2, hq => cases hq; exact K2
    | 3, hq => cases hq; exact K3
    | 4, hq => cases hq; exact K4
    | 5, hq => cases hq; exact K5
    | 6, hq => cases hq; exact K6
    | 7, hq => cases hq; exact K7
    | 8, hq => cases hq; exact K8
    | k + 9, hq => simp [vwCl] at hq
  · intro k q hq
    match k, hq with
    | 0, hq => cases hq; exact ⟨hI, nI'⟩
    | 1, hq => cases hq; exact ⟨hZ, nZ⟩
    | k + 2, hq => simp at hq
abbrev sLaw : am_Sg := (yL_law, code, 4, some .boolean, room_1)
section LWC
variable {p : Program} {l : Launch} {e : Env} {s : State} {m : MethodId} {args : Array Value} {below : List Frame} {meth : Method} {c : Code} {H : Heap} {locs : List Loc} {Q : State → Prop} {D : va_G} {cI cZ : ClassId} {b : Nat}
variable {q : am_Sg} {pc : Nat} {rest as : List Value} {ab ab1 : List am_Cl} {k n idx : Nat} {v : Option Value} {ls : Array Slot}
theorem lc_virt {i ci : Nat} {C : String} {T : u_T} {N : Nat} {fs : List Value} (hx : p.tables.exec = Jvm.exec) (hb : c.code = code) (hml : c.maxLocals = 4) (hown : s.vm.findClass RL = some m.cls) (hts : ∀ w ∈ am_gw, w.before args s = true) (hKs : am_K D cI cZ s) (hls : ls.size = 4)
    (hH : am_H D cI cZ b ab H) (hS : va_S (fun q => b ≤ q) s.heap H locs) (hE : am_Ev q (.ref i :: as) ab v ab1) (hd : decode code pc = .ok (.invokevirtual idx, 3)) (hq : am_qk sLaw q as.length) (hc0 : vwCl[ci]? = some (C, T, N)) (hin : Cond.instanceMethod (am_y q) ∈ am_gw) (hl : Cond.methodLink RL idx (am_y q) ∈ am_gw) (hse : Cond.selects C (am_y q) (am_y q) ∈ am_gw) (hc : am_ls ab i = some (.inr (ci, fs))) (h8 : am_ct rest ≤ 8) (hrc : (am_rm q).cells = 0) (hrs : (am_rm q).slots = 0) (h1 : k ≤ 52) (h2 : n ≤ 1972)
    (hk : ∀ (H1 : Heap) (locs1 : List Loc), am_H D cI cZ b ab1 H1 → va_S (fun q => b ≤ q) s.heap H1 locs1 → W p l e room_1 s m args below meth c H1 locs1 k n Q (F0 m (pc + 3) ls ((v.toList ++ rest).map (am_v b)))) : W p l e room_1 s m args below meth c H locs k n Q (F0 m pc ls ((as.reverse ++ .ref i :: rest).map (am_v b))) := by
  have hrecv := va_recv (q := (C, T, N)) hKs.1 (am_P hH) hc0 (am_ws_at (by rw [← am_ls_eq]; exact hc))
  have hp : PreV s H C (b + i) (fun a U => a = ((Value.ref i :: as).map (am_v b)).toArray ∧ am_H D cI cZ b ab U.heap ∧ am_K D cI cZ U) (as.map (am_v b)) := ⟨am_blind D cI cZ b (.ref i :: as) ab, hrecv, fun U hU hW => ⟨rfl, by rw [hU]; exact hH, am_K_warm hW hKs⟩⟩
  refine am_after (va_runV (As := as.map (am_v b)) (b := b + i) (rest := rest.map (am_v b)) (nL := 4) (Ts := am_gw) (own := RL) ⟨hx, hb, hml, hown, hts⟩ (hE.2 l D cI cZ b) ⟨callB_of as.length hts (am_good hE.1) rfl rfl rfl (hts _ hq.2.2) (hts _ hl) hq.1 hq.2.1, hts _ hin, hts _ hse⟩ hp rfl (by simp) hls (by simp [List.map_reverse, am_v]) (am_room8 b h8) hd ⟨by rw [hrc]; exact h1, by rw [hrs]; exact h2⟩) hS ?_
  intro H1 locs1 g1 g2
  rw [am_stk, hrc, hrs]
  exact hk H1 locs1 g1 g2
end LWC

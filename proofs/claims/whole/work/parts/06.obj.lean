/-! soundness of the small machine: fields, new cells, calls, returns, switches -/
theorem am_in0 : ∀ w ∈ u_ws RX0 TX0 5, w ∈ lw_tbl ∧ goodWord w = true := by decide +kernel
theorem am_in1 : ∀ w ∈ u_ws RX1 TX1 2, w ∈ lw_tbl ∧ goodWord w = true := by decide +kernel
theorem am_in3 : ∀ w ∈ u_ws RX3 TX3 2, w ∈ lw_tbl ∧ goodWord w = true := by decide +kernel
theorem am_in5 : ∀ w ∈ u_ws RX5 TX5 9, w ∈ lw_tbl ∧ goodWord w = true := by decide +kernel
theorem am_in6 : ∀ w ∈ u_ws RX6 TX6 8, w ∈ lw_tbl ∧ goodWord w = true := by decide +kernel
theorem am_in7 : ∀ w ∈ u_ws RX7 TX7 3, w ∈ lw_tbl ∧ goodWord w = true := by decide +kernel
theorem am_in9 : ∀ w ∈ u_ws RX9 TX9 9, w ∈ lw_tbl ∧ goodWord w = true := by decide +kernel
theorem am_in10 : ∀ w ∈ u_ws RX10 TX10 9, w ∈ lw_tbl ∧ goodWord w = true := by decide +kernel
theorem am_in11 : ∀ w ∈ u_ws RX11 TX11 28, w ∈ lw_tbl ∧ goodWord w = true := by decide +kernel
theorem am_inOf {l : List Cond} (h : ∀ w ∈ l, w ∈ lw_tbl ∧ goodWord w = true) : ∀ w ∈ l, w ∈ am_gw := fun w hw => List.mem_filter.mpr ⟨List.mem_append_left _ (h w hw).1, (h w hw).2⟩
def am_Cls (ci : Nat) (C : String) (T : u_T) (N : Nat) (ty : Nat → FieldType) : Prop := (∀ w ∈ u_ws C T N, w ∈ am_gw) ∧ (∀ k, k < N → parseFieldDescriptor (T k).2.2.1 = some (ty k)) ∧ (∀ a, a < N → ∀ b, b < N → a ≠ b → (T a).2.1 ≠ (T b).2.1) ∧ (∀ j, j < N → defaultValue (ty j) = vp_V (am_df ci) j) ∧ (∀ b, (am_df ci).map (am_v b) = am_df ci)
theorem am_cls {ci : Nat} {C : String} {T : u_T} {N : Nat} (h : vwCl[ci]? = some (C, T, N)) : ∃ ty, am_Cls ci C T N ty := by
  match ci, h with
  | 0, h => cases h; exact ⟨tyX0, am_inOf am_in0, tyX0_ok, nmX0, by decide +kernel, fun _ => rfl⟩
  | 1, h => cases h; exact ⟨tyX1, am_inOf am_in1, tyX1_ok, nmX1, by decide +kernel, fun _ => rfl⟩
  | 2, h => cases h; exact ⟨tyX3, am_inOf am_in3, tyX3_ok, nmX3, by decide +kernel, fun _ => rfl⟩
  | 3, h => cases h; exact ⟨tyX5, am_inOf am_in5, tyX5_ok, nmX5, by decide +kernel, fun _ => rfl⟩
  | 4, h => cases h; exact ⟨tyX6, am_inOf am_in6, tyX6_ok, nmX6, by decide +kernel, fun _ => rfl⟩
  | 5, h => cases h; exact ⟨tyX7, am_inOf am_in7, tyX7_ok, nmX7, by decide +kernel, fun _ => rfl⟩
  | 6, h => cases h; exact ⟨tyX9, am_inOf am_in9, tyX9_ok, nmX9, by decide +kernel, fun _ => rfl⟩
  | 7, h => cases h; exact ⟨tyX10, am_inOf am_in10, tyX10_ok, nmX10, by decide +kernel, fun _ => rfl⟩
  | 8, h => cases h; exact ⟨tyX11, am_inOf am_in11, tyX11_ok, nmX11, by decide +kernel, fun _ => rfl⟩
  | k + 9, h => simp [vwCl] at h
/-- a field, as an instruction names it -/
def am_fk (own : String) (idx k : Nat) (ref : String) (ci : Nat) : Prop := ∃ (C : String) (T : u_T) (N : Nat), vwCl[ci]? = some (C, T, N) ∧ k < N ∧ Cond.fieldLink own idx ref (T k).2.1 (T k).2.2.1 ∈ am_gw ∧ ((T k).1 = ref ∨ Cond.sameField ref (T k).1 (T k).2.1 (T k).2.2.1 ∈ am_gw)
def am_pk (own nm : String) (idx k : Nat) (ref : String) (ci : Nat) (sort : Int32) : Prop := ∃ (C : String) (T : u_T) (N : Nat) (ty : FieldType), vwCl[ci]? = some (C, T, N) ∧ k < N ∧ Cond.fieldLink own idx ref (T k).2.1 (T k).2.2.1 ∈ am_gw ∧ ((T k).1 = ref ∨ Cond.sameField ref (T k).1 (T k).2.1 (T k).2.2.1 ∈ am_gw) ∧
  ((T k).2.2.2 = false ∨ ((T k).2.2.2 = true ∧ nm = "<init>" ∧ (T k).1 = own)) ∧ parseFieldDescriptor (T k).2.2.1 = some ty ∧ ((sort = 0 ∧ ty = .int) ∨ (sort = 1 ∧ ty = .boolean) ∨ (sort = 2 ∧ ((∃ c, ty = .object c) ∨ ∃ t, ty = .array t)))
theorem am_fv_ok {sort : Int32} {v : Value} {ty : FieldType} (b : Nat) (h : am_fv sort v = true) (ht : (sort = 0 ∧ ty = .int) ∨ (sort = 1 ∧ ty = .boolean) ∨ (sort = 2 ∧ ((∃ c, ty = .object c) ∨ ∃ t, ty = .array t))) : narrow ty (am_v b v) = am_v b v ∧ fits ty (am_v b v) = true := by
  rcases ht with ⟨rfl, rfl⟩ | ⟨rfl, rfl⟩ | ⟨rfl, ⟨c, rfl⟩ | ⟨t, rfl⟩⟩
  · cases v with
    | int x => exact ⟨rfl, rfl⟩
    | _ => simp [am_fv] at h
  · cases v with
    | int x =>
      simp [am_fv] at h
      rcases h with rfl | rfl <;> exact ⟨rfl, rfl⟩
    | _ => simp [am_fv] at h
  · cases v with
    | ref x => exact ⟨rfl, rfl⟩
    | null => exact ⟨rfl, rfl⟩
    | _ => simp [am_fv] at h
  · cases v with
    | ref x => exact ⟨rfl, rfl⟩
    | null => exact ⟨rfl, rfl⟩
    | _ => simp [am_fv] at h
section AMO
variable {S : am_Sg} {r : Option Value} {ab' : List am_Cl} {pc : Nat} {L rest : List Value} {ab : List am_Cl} {k n : Nat}
theorem am_t_getfield {idx j i ci : Nat} {ref : String} {fs : List Value} {v : Value} (hd : decode (am_c S) pc = .ok (.getfield idx, 3)) (hF : am_fk (am_y S).cls idx j ref ci) (hc : am_ls ab i = some (.inr (ci, fs))) (hv : am_vs fs j = some v) (hk : am_T S r ab' (pc + 3) L (v :: rest) ab k n) : am_T S r ab' pc L (.ref i :: rest) ab k n := by
  intro l D cI cZ b p e s m args below meth c H locs ls hC hH hS hL hlen
  obtain ⟨C, T, N, hc0, hjN, hlink, hsm⟩ := hF
  obtain ⟨ty, hin, -⟩ := am_cls hc0
  have hts := hC.2.2.2.2.2.2.2.1
  refine va_get (v := am_v b v) (ref := ref) hC.1 hC.2.1 hts hin hC.2.2.2.2.2.1 hC.2.2.2.2.2.2.2.2.1.1 (am_P hH) i (am_ws_at (by rw [← am_ls_eq]; exact hc)) hc0 j hjN (hts _ hlink) ?_ ?_ hd (hk l D cI cZ b p e s m args below meth c H locs ls hC hH hS hL hlen)
  · rcases hsm with h | h
    · intro x hx; rw [← h]; exact hx
    · intro x hx; exact u_same (hts _ h) x hx
  · rw [List.getElem?_map, ← am_vs_eq, hv]; rfl
theorem am_t_putfield {idx j i ci : Nat} {ref : String} {sort : Int32} {fs : List Value} {v u : Value} (hd : decode (am_c S) pc = .ok (.putfield idx, 3)) (hF : am_pk (am_y S).cls (am_y S).name idx j ref ci sort) (hc : am_ls ab i = some (.inr (ci, fs))) (hu : am_vs fs j = some u) (hv : am_fv sort v = true) (hk : am_T S r ab' (pc + 3) L rest (am_up ab i (.inr (ci, am_vu fs j v))) k n) : am_T S r ab' pc L (v :: .ref i :: rest) ab k n := by
  intro l D cI cZ b p e s m args below meth c H locs ls hC hH hS hL hlen
  obtain ⟨C, T, N, ty, hc0, hjN, hlink, hsm, hfin, hdesc, hsort⟩ := hF
  obtain ⟨ty0, hin, hty0, hnm0, -⟩ := am_cls hc0
  obtain ⟨hn, hfit⟩ := am_fv_ok b hv hsort
  have hts := hC.2.2.2.2.2.2.2.1
  have hKv := hC.2.2.2.2.2.2.2.2.1.1
  have hown := hC.2.2.2.2.2.1
  have hap := va_apart (own := (am_y S).cls) hts hin ty0 hty0 hnm0 hKv hc0
  obtain ⟨r0, h1, cell, q1, q2, q3, q4⟩ := am_P hH i _ (am_ws_at (by rw [← am_ls_eq]; exact hc))
  have hr0 : r0 = (C, T, N) := Option.some.inj (h1.symm.trans hc0)
  subst hr0
  obtain ⟨hSl, hfc, kC, hkC, hkind⟩ := hKv.1 ci _ hc0
  obtain ⟨cf, kf, fi, f, hi, hsl⟩ := hSl j hjN
  have hst := (u_facts hfc hkC (u_lays hts hin hjN) hi).1
  have hsame : s.fieldFound? ref (T j).2.1 (T j).2.2.1 = some (cf, kf, fi, f) := by
    rcases hsm with h | h
    · rw [← h]; exact hi
    · exact u_same (hts _ h) _ hi
  have hlen2 : j < (fs.map (am_v b)).length := by
    rw [am_vs_eq] at hu
    simpa using (List.getElem?_eq_some_iff.mp hu).1
  have fin : ∀ H' : Heap, H'[b + i]? = some (cell.setSlot f.slot (am_v b v)) → H'.size = H.size → (∀ q, q ≠ b + i → H'[q]? = H[q]?) → W p l e (am_rm S) s m args below meth c H' (locs ++ [⟨b + i, f.slot⟩]) k n (MQ below (am_Q D cI cZ b r ab') args s (am_rm S).cells (am_rm S).slots (fun q => b ≤ q)) (F0 m (pc + 3) ls (rest.map (am_v b))) := by
    intro H' e1 e2 e3
    refine hk l D cI cZ b p e s m args below meth c H' _ ls hC (am_H_set hH hc e2 ?_ e3) (am_S_put hS e2 e3) hL hlen
    rw [hsl] at e1
    refine ⟨_, hc0, ?_⟩
    have e4 : (am_vu fs j v).map (am_v b) = (fs.map (am_v b)).set j (am_v b v) := by rw [am_vu_eq, List.map_set]
    show t_OB (b + i) _ _ _ H' (vp_V ((am_vu fs j v).map (am_v b)))
    rw [e4]
    exact t_OB.to (V := updV (vp_V (fs.map (am_v b))) j (am_v b v)) ⟨_, e1, q2, q3, t_set q4 hap hjN (am_v b v)⟩ (fun x _ => vp_updV_set hlen2 (am_v b v) x)
  have hlay := hts _ (hin _ (u_in_lay hjN))
  unfold u_lay at hlay
  rcases hfin with hf | ⟨hf, hini, hdecl⟩
  · rw [if_neg (by rw [hf]; decide)] at hlay
    have h6 := u_store hfc hkC hkind hlay hi hdesc hn hfit
    exact W.putK hC.1 hC.2.1 (f := f) ⟨hown, hts _ hlink, ⟨_, _, _, hsame⟩, hst⟩ (by rw [q2]; exact h6) q1 q3 (by rw [hsl]; exact k2_hasslot (q4 j hjN)) rfl rfl hd fin
  · rw [if_pos hf] at hlay
    have hcf : m.cls = cf := by
      obtain ⟨_, _, c', _, _, _, -, -, hf', -, -, -, hown2, -⟩ := Cond.laysFinal_spec hlay
      have e1 : c' = cf := by have := hi.symm.trans hf'; simp at this; exact this.1.symm
      rw [hdecl] at hown2
      rw [← e1]; exact Option.some.inj (hown.symm.trans hown2)
    have h6 := u_fits hfc hkC hkind (Or.inr hlay) hi hdesc hn hfit
    exact W.putFinK hC.1 hC.2.1 hown (hts _ hlink) hsame hst hcf (by rw [hC.2.2.2.2.2.2.1]; exact hini) (by rw [q2]; exact h6) q1 q3 (by rw [hsl]; exact k2_hasslot (q4 j hjN)) rfl rfl hd fin
theorem am_t_new {idx ci : Nat} {C : String} {T : u_T} (hd : decode (am_c S) pc = .ok (.new idx, 3)) (hc0 : vwCl[ci]? = some (C, T, (am_df ci).length)) (hcl : Cond.classLink (am_y S).cls idx C ∈ am_gw) (hins : Cond.instantiable C (am_df ci).length ∈ am_gw) (hini : Cond.initialized C ∈ am_gw) (h1 : k + 1 ≤ (am_rm S).cells) (h2 : n + (am_df ci).length ≤ (am_rm S).slots) (hk : am_T S r ab' (pc + 3) L (.ref ab.length :: rest) (ab ++ [.inr (ci, am_df ci)]) (k + 1) (n + (am_df ci).length)) : am_T S r ab' pc L rest ab k n := by
  intro l D cI cZ b p e s m args below meth c H locs ls hC hH hS hL hlen
  obtain ⟨ty0, hin, hty0, hnm0, hdf, hmap⟩ := am_cls hc0
  have hts := hC.2.2.2.2.2.2.2.1
  have hKn := hC.2.2.2.2.2.2.2.2.1.1.1 ci _ hc0
  refine W.newcK hC.1 hC.2.1 hC.2.2.2.2.2.1 (hts _ hcl) (hts _ hins) (hts _ hini) rfl hd h1 h2 hKn.2.1 hH.1 fun H1 kC hkC e1 z1 o1 => ?_
  refine hk l D cI cZ b p e s m args below meth c H1 locs ls hC (am_H_new hH (by rw [z1, hH.1]) ?_ (by rw [hH.1]; exact o1)) (am_S_new hS (by rw [z1, hH.1]) (by rw [hH.1]; exact o1)) hL hlen
  refine ⟨_, hc0, ?_⟩
  show t_OB _ _ _ _ _ (vp_V ((am_df ci).map (am_v b)))
  rw [hmap]
  exact (u_born ty0 hts hin hKn hkC e1 hty0).to hdf
theorem am_t_newarray {t : ArrayType} {cn : Int32} {N : Nat} (hd : decode (am_c S) pc = .ok (.newarray t, 2)) (hw : Cond.arrayClass (newarray.typeOf t) ∈ am_gw) (ht : t = .int ∨ t = .boolean) (hn : ¬ cn < 0) (hN : cn.toNatClampNeg = N) (hb8 : N * 8 ≤ 536870912) (h1 : k + 1 ≤ (am_rm S).cells) (h2 : n + N ≤ (am_rm S).slots) (hk : am_T S r ab' (pc + 2) L (.ref ab.length :: rest) (ab ++ [.inl (decide (t = .boolean), N, fun _ => 0)]) (k + 1) (n + N)) : am_T S r ab' pc L (.int cn :: rest) ab k n := by
  intro l D cI cZ b p e s m args below meth c H locs ls hC hH hS hL hlen
  have hts := hC.2.2.2.2.2.2.2.1
  have hKv := hC.2.2.2.2.2.2.2.2.1.1
  refine va_newaK hC.1 hC.2.1 (hts _ hw) rfl hd rfl hn hN ?_ h1 h2 hH.1 fun H1 cA e1 z1 o1 hAr hNm => ?_
  · rcases ht with rfl | rfl <;> (simp [newarray.typeOf, componentBytes]; omega)
  · refine hk l D cI cZ b p e s m args below meth c H1 locs ls hC (am_H_new hH (by rw [z1, hH.1]) ?_ (by rw [hH.1]; exact o1)) (am_S_new hS (by rw [z1, hH.1]) (by rw [hH.1]; exact o1)) hL hlen
    rcases ht with rfl | rfl
    · have e2 : s.vm.findClass ("[" ++ (FieldType.int).toString) = some cI := (hKv.2 0 _ rfl).2
      have e3 : cA = cI := Option.some.inj (hNm.symm.trans e2)
      subst e3
      exact e1
    · have e2 : s.vm.findClass ("[" ++ (FieldType.boolean).toString) = some cZ := (hKv.2 1 _ rfl).2
      have e3 : cA = cZ := Option.some.inj (hNm.symm.trans e2)
      subst e3
      exact e1
theorem am_t_objInit {idx i : Nat} (hd : decode (am_c S) pc = .ok (.invokespecial idx, 3)) (hl : Cond.methodLink (am_y S).cls idx Lib.objectInit ∈ am_gw) (hi : Cond.instanceMethod Lib.objectInit ∈ am_gw) (hc : Cond.code Lib.objectInit ⟨#[0xb1]⟩ 1 none ∈ am_gw) (hf : 1 ≤ (am_rm S).frames) (ho : 20 ≤ (am_rm S).locals) (h8 : am_ct rest ≤ 8) (hk : am_T S r ab' (pc + 3) L rest ab k n) : am_T S r ab' pc L (.ref i :: rest) ab k n := by
  intro l D cI cZ b p e s m args below meth c H locs ls hC hH hS hL hlen
  have hts := hC.2.2.2.2.2.2.2.1
  refine W.objInit hC.1 hC.2.1 hC.2.2.2.2.2.1 (hts _ hl) (hts _ hi) (hts _ hc) rfl (by rw [hC.2.2.2.2.1]; exact hL.1) rfl hd hf ?_ (hk l D cI cZ b p e s m args below meth c H locs ls hC hH hS hL hlen)
  have := am_ct_eq b rest
  show 2 * 0 + _ + 12 ≤ _
  rw [this]
  omega
theorem am_t_min {idx : Nat} {x y : Int32} (hd : decode (am_c S) pc = .ok (.invokestatic idx, 3)) (hl : Cond.methodLink (am_y S).cls idx Lib.Math.min.name ∈ am_gw) (hst : Cond.static Lib.Math.min.name ∈ am_gw) (hin : Cond.initialized "java/lang/Math" ∈ am_gw) (hc : Cond.code Lib.Math.min.name Lib.Math.min.code 2 (some .int) ∈ am_gw) (hf : 1 ≤ (am_rm S).frames) (ho : 21 ≤ (am_rm S).locals) (h8 : am_ct rest ≤ 8) (h1 : k ≤ (am_rm S).cells) (h2 : n ≤ (am_rm S).slots) (hk : am_T S r ab' (pc + 3) L (.int (if y < x then y else x) :: rest) ab k n) : am_T S r ab' pc L (.int y :: .int x :: rest) ab k n := by
  intro l D cI cZ b p e s m args below meth c H locs ls hC hH hS hL hlen
  have hts := hC.2.2.2.2.2.2.2.1
  refine va_mmin hC.1 hC.2.1 (by rw [hC.2.2.2.2.1]; exact hL.1.symm) hC.2.2.2.2.2.1 (hts _ hl) (hts _ hst) (hts _ hin) (hts _ hc) hf ?_ h1 h2 hd (hk l D cI cZ b p e s m args below meth c H locs ls hC hH hS hL hlen)
  have := am_ct_eq b rest
  rw [this]
  omega
theorem am_t_ireturn {x : Int32} {ty : FieldType} (hd : decode (am_c S) pc = .ok (.ireturn, 1)) (hr : am_r S = some ty) (hn : narrow ty (.int x) = .int x) (h1 : k ≤ (am_rm S).cells) (h2 : n ≤ (am_rm S).slots) : am_T S (some (.int x)) ab pc L [.int x] ab k n := by
  intro l D cI cZ b p e s m args below meth c H locs ls hC hH hS hL hlen
  refine W.widen h1 h2 ?_
  exact W.zret hC.1 hC.2.1 (by rw [hC.2.2.1, hr]) hn (fun t ht hW => ⟨rfl, by rw [ht]; exact hH, hS.F ht⟩) hS.2.2 hd hC.2.2.2.1
theorem am_t_return (hd : decode (am_c S) pc = .ok (.return_, 1)) (hr : am_r S = none) (h1 : k ≤ (am_rm S).cells) (h2 : n ≤ (am_rm S).slots) : am_T S none ab pc L [] ab k n := by
  intro l D cI cZ b p e s m args below meth c H locs ls hC hH hS hL hlen
  refine W.widen h1 h2 ?_
  exact W.vret hC.1 hC.2.1 (by rw [hC.2.2.1, hr]) (fun t ht hW => ⟨rfl, by rw [ht]; exact hH, hS.F ht⟩) hS.2.2 hd hC.2.2.2.1
theorem am_t_areturn {v : Value} {nm : String} (hd : decode (am_c S) pc = .ok (.areturn, 1)) (hr : am_r S = some (.object nm)) (hv : am_fv 2 v = true) (h1 : k ≤ (am_rm S).cells) (h2 : n ≤ (am_rm S).slots) : am_T S (some v) ab pc L [v] ab k n := by
  intro l D cI cZ b p e s m args below meth c H locs ls hC hH hS hL hlen
  refine W.widen h1 h2 ?_
  refine W.aret (v := am_v b v) hC.1 hC.2.1 (by rw [hC.2.2.1, hr]) (Or.inl ⟨nm, rfl⟩) ?_ (fun t ht hW => ⟨rfl, by rw [ht]; exact hH, hS.F ht⟩) hS.2.2 hd hC.2.2.2.1
  cases v with
  | ref i => exact Or.inr ⟨_, rfl⟩
  | null => exact Or.inl rfl
  | _ => simp [am_fv] at hv
end AMO

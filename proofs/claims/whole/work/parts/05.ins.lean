/-! soundness of the small machine: an instruction, a row -/
section AMI
variable {S : am_Sg} {r : Option Value} {ab' : List am_Cl} {pc : Nat} {L rest : List Value} {ab : List am_Cl} {k n : Nat}
theorem am_t_iconst {i : Int} {v : Int32} (hd : decode (am_c S) pc = .ok (.iconst i, 1)) (hv : Int32.ofInt i = v) (hk : am_T S r ab' (pc + 1) L (.int v :: rest) ab k n) : am_T S r ab' pc L (rest) ab k n := by
  intro l D cI cZ b p e s m args below meth c H locs ls hC hH hS hL hlen
  exact lv_iconst hC.1 hC.2.1 hd hv (hk l D cI cZ b p e s m args below meth c H locs ls hC hH hS hL hlen)
theorem am_t_bipush {i : Int} {v : Int32} (hd : decode (am_c S) pc = .ok (.bipush i, 2)) (hv : (Int8.ofInt i).toInt32 = v) (hk : am_T S r ab' (pc + 2) L (.int v :: rest) ab k n) : am_T S r ab' pc L (rest) ab k n := by
  intro l D cI cZ b p e s m args below meth c H locs ls hC hH hS hL hlen
  exact lv_bipush hC.1 hC.2.1 hd hv (hk l D cI cZ b p e s m args below meth c H locs ls hC hH hS hL hlen)
theorem am_t_sipush {i : Int} {v : Int32} (hd : decode (am_c S) pc = .ok (.sipush i, 3)) (hv : (Int16.ofInt i).toInt32 = v) (hk : am_T S r ab' (pc + 3) L (.int v :: rest) ab k n) : am_T S r ab' pc L (rest) ab k n := by
  intro l D cI cZ b p e s m args below meth c H locs ls hC hH hS hL hlen
  exact lv_sipush hC.1 hC.2.1 hd hv (hk l D cI cZ b p e s m args below meth c H locs ls hC hH hS hL hlen)
theorem am_t_ldc {i : Nat} {v : Int32} (hd : decode (am_c S) pc = .ok (.ldc i, 2)) (hw : Cond.constant (am_y S).cls i v ∈ am_gw) (hk : am_T S r ab' (pc + 2) L (.int v :: rest) ab k n) : am_T S r ab' pc L (rest) ab k n := by
  intro l D cI cZ b p e s m args below meth c H locs ls hC hH hS hL hlen
  exact lv_ldc hC.1 hC.2.1 hC.2.2.2.2.2.1 (hC.2.2.2.2.2.2.2.1 _ hw) hd (hk l D cI cZ b p e s m args below meth c H locs ls hC hH hS hL hlen)
theorem am_t_iload_n {i : Fin 4} {x : Int32} (hd : decode (am_c S) pc = .ok (.iload_n i, 1)) (hx : am_vs L i.val = some (.int x)) (hk : am_T S r ab' (pc + 1) L (.int x :: rest) ab k n) : am_T S r ab' pc L (rest) ab k n := by
  intro l D cI cZ b p e s m args below meth c H locs ls hC hH hS hL hlen
  exact lv_iload_n hC.1 hC.2.1 hd rfl (am_lget hL hx rfl) (hk l D cI cZ b p e s m args below meth c H locs ls hC hH hS hL hlen)
theorem am_t_iload {i : Nat} {x : Int32} (hd : decode (am_c S) pc = .ok (.iload i, 2)) (hx : am_vs L i = some (.int x)) (hk : am_T S r ab' (pc + 2) L (.int x :: rest) ab k n) : am_T S r ab' pc L (rest) ab k n := by
  intro l D cI cZ b p e s m args below meth c H locs ls hC hH hS hL hlen
  exact lv_iload hC.1 hC.2.1 hd (am_lget hL hx rfl) (hk l D cI cZ b p e s m args below meth c H locs ls hC hH hS hL hlen)
theorem am_t_aload_n {i : Fin 4} {x : Nat} (hd : decode (am_c S) pc = .ok (.aload_n i, 1)) (hx : am_vs L i.val = some (.ref x)) (hk : am_T S r ab' (pc + 1) L (.ref x :: rest) ab k n) : am_T S r ab' pc L (rest) ab k n := by
  intro l D cI cZ b p e s m args below meth c H locs ls hC hH hS hL hlen
  exact lv_aload_n hC.1 hC.2.1 hd rfl (am_lget hL hx rfl) (hk l D cI cZ b p e s m args below meth c H locs ls hC hH hS hL hlen)
theorem am_t_aload_nN {i : Fin 4} (hd : decode (am_c S) pc = .ok (.aload_n i, 1)) (hx : am_vs L i.val = some .null) (hk : am_T S r ab' (pc + 1) L (.null :: rest) ab k n) : am_T S r ab' pc L (rest) ab k n := by
  intro l D cI cZ b p e s m args below meth c H locs ls hC hH hS hL hlen
  exact lv_aload_nN hC.1 hC.2.1 hd rfl (am_lget hL hx rfl) (hk l D cI cZ b p e s m args below meth c H locs ls hC hH hS hL hlen)
theorem am_t_istore_n {i : Fin 4} {x : Int32} {u : Value} (hd : decode (am_c S) pc = .ok (.istore_n i, 1)) (hu : am_vs L i.val = some u) (hk : am_T S r ab' (pc + 1) (am_vu L i.val (.int x)) rest ab k n) : am_T S r ab' pc L (.int x :: rest) ab k n := by
  intro l D cI cZ b p e s m args below meth c H locs ls hC hH hS hL hlen
  exact lv_istore_n hC.1 hC.2.1 hd rfl hL (by rw [← hlen]; rw [am_vs_eq] at hu; exact (List.getElem?_eq_some_iff.mp hu).1) rfl (fun ls' hl' => hk l D cI cZ b p e s m args below meth c H locs ls' hC hH hS (am_lput hu rfl hl') (am_vu_len hlen))
theorem am_t_istore {i : Nat} {x : Int32} {u : Value} (hd : decode (am_c S) pc = .ok (.istore i, 2)) (hu : am_vs L i = some u) (hk : am_T S r ab' (pc + 2) (am_vu L i (.int x)) rest ab k n) : am_T S r ab' pc L (.int x :: rest) ab k n := by
  intro l D cI cZ b p e s m args below meth c H locs ls hC hH hS hL hlen
  exact lv_istore hC.1 hC.2.1 hd hL (by rw [← hlen]; rw [am_vs_eq] at hu; exact (List.getElem?_eq_some_iff.mp hu).1) rfl (fun ls' hl' => hk l D cI cZ b p e s m args below meth c H locs ls' hC hH hS (am_lput hu rfl hl') (am_vu_len hlen))
theorem am_t_astore_n {i : Fin 4} {x : Nat} {u : Value} (hd : decode (am_c S) pc = .ok (.astore_n i, 1)) (hu : am_vs L i.val = some u) (hk : am_T S r ab' (pc + 1) (am_vu L i.val (.ref x)) rest ab k n) : am_T S r ab' pc L (.ref x :: rest) ab k n := by
  intro l D cI cZ b p e s m args below meth c H locs ls hC hH hS hL hlen
  exact lv_astore_n hC.1 hC.2.1 hd rfl hL (by rw [← hlen]; rw [am_vs_eq] at hu; exact (List.getElem?_eq_some_iff.mp hu).1) rfl (fun ls' hl' => hk l D cI cZ b p e s m args below meth c H locs ls' hC hH hS (am_lput hu rfl hl') (am_vu_len hlen))
theorem am_t_astore_nN {i : Fin 4} {u : Value} (hd : decode (am_c S) pc = .ok (.astore_n i, 1)) (hu : am_vs L i.val = some u) (hk : am_T S r ab' (pc + 1) (am_vu L i.val .null) rest ab k n) : am_T S r ab' pc L (.null :: rest) ab k n := by
  intro l D cI cZ b p e s m args below meth c H locs ls hC hH hS hL hlen
  exact lv_astore_nN hC.1 hC.2.1 hd rfl hL (by rw [← hlen]; rw [am_vs_eq] at hu; exact (List.getElem?_eq_some_iff.mp hu).1) rfl (fun ls' hl' => hk l D cI cZ b p e s m args below meth c H locs ls' hC hH hS (am_lput hu rfl hl') (am_vu_len hlen))
theorem am_t_iinc {i : Nat} {d : Int} {v x : Int32} (hd : decode (am_c S) pc = .ok (.iinc i d, 3)) (hv : Int32.ofInt d = v) (hu : am_vs L i = some (.int x)) (hk : am_T S r ab' (pc + 3) (am_vu L i (.int (x + v))) rest ab k n) : am_T S r ab' pc L (rest) ab k n := by
  intro l D cI cZ b p e s m args below meth c H locs ls hC hH hS hL hlen
  have hm : (i, Value.int x) ∈ am_lv b L := am_lv_mem (b := b) (by rw [← am_vs_eq]; exact hu) rfl
  obtain ⟨j, hj⟩ := List.getElem?_of_mem hm
  exact lv_iinc (v := x + v) hC.1 hC.2.1 hd hL hj (by rw [hv]) (by rw [← hlen]; rw [am_vs_eq] at hu; exact (List.getElem?_eq_some_iff.mp hu).1) rfl (fun ls' hl' => hk l D cI cZ b p e s m args below meth c H locs ls' hC hH hS (am_lput (v := .int (x + v)) hu rfl hl') (am_vu_len hlen))
theorem am_t_iadd {x y : Int32} (hd : decode (am_c S) pc = .ok (.iadd, 1)) (hk : am_T S r ab' (pc + 1) L (.int (x + y) :: rest) ab k n) : am_T S r ab' pc L (.int y :: .int x :: rest) ab k n := by
  intro l D cI cZ b p e s m args below meth c H locs ls hC hH hS hL hlen
  exact lv_iadd hC.1 hC.2.1 hd (hk l D cI cZ b p e s m args below meth c H locs ls hC hH hS hL hlen)
theorem am_t_isub {x y : Int32} (hd : decode (am_c S) pc = .ok (.isub, 1)) (hk : am_T S r ab' (pc + 1) L (.int (x - y) :: rest) ab k n) : am_T S r ab' pc L (.int y :: .int x :: rest) ab k n := by
  intro l D cI cZ b p e s m args below meth c H locs ls hC hH hS hL hlen
  exact lv_isub hC.1 hC.2.1 hd (hk l D cI cZ b p e s m args below meth c H locs ls hC hH hS hL hlen)
theorem am_t_imul {x y : Int32} (hd : decode (am_c S) pc = .ok (.imul, 1)) (hk : am_T S r ab' (pc + 1) L (.int (x * y) :: rest) ab k n) : am_T S r ab' pc L (.int y :: .int x :: rest) ab k n := by
  intro l D cI cZ b p e s m args below meth c H locs ls hC hH hS hL hlen
  exact lv_imul hC.1 hC.2.1 hd (hk l D cI cZ b p e s m args below meth c H locs ls hC hH hS hL hlen)
theorem am_t_iand {x y : Int32} (hd : decode (am_c S) pc = .ok (.iand, 1)) (hk : am_T S r ab' (pc + 1) L (.int (x &&& y) :: rest) ab k n) : am_T S r ab' pc L (.int y :: .int x :: rest) ab k n := by
  intro l D cI cZ b p e s m args below meth c H locs ls hC hH hS hL hlen
  exact lv_iand hC.1 hC.2.1 hd (hk l D cI cZ b p e s m args below meth c H locs ls hC hH hS hL hlen)
theorem am_t_ior {x y : Int32} (hd : decode (am_c S) pc = .ok (.ior, 1)) (hk : am_T S r ab' (pc + 1) L (.int (x ||| y) :: rest) ab k n) : am_T S r ab' pc L (.int y :: .int x :: rest) ab k n := by
  intro l D cI cZ b p e s m args below meth c H locs ls hC hH hS hL hlen
  exact lv_ior hC.1 hC.2.1 hd (hk l D cI cZ b p e s m args below meth c H locs ls hC hH hS hL hlen)
theorem am_t_ishl {x y : Int32} (hd : decode (am_c S) pc = .ok (.ishl, 1)) (hk : am_T S r ab' (pc + 1) L (.int (x <<< (y &&& 31)) :: rest) ab k n) : am_T S r ab' pc L (.int y :: .int x :: rest) ab k n := by
  intro l D cI cZ b p e s m args below meth c H locs ls hC hH hS hL hlen
  exact lv_ishl hC.1 hC.2.1 hd (hk l D cI cZ b p e s m args below meth c H locs ls hC hH hS hL hlen)
theorem am_t_ishr {x y : Int32} (hd : decode (am_c S) pc = .ok (.ishr, 1)) (hk : am_T S r ab' (pc + 1) L (.int (x >>> (y &&& 31)) :: rest) ab k n) : am_T S r ab' pc L (.int y :: .int x :: rest) ab k n := by
  intro l D cI cZ b p e s m args below meth c H locs ls hC hH hS hL hlen
  exact lv_ishr hC.1 hC.2.1 hd (hk l D cI cZ b p e s m args below meth c H locs ls hC hH hS hL hlen)
theorem am_t_iushr {x y : Int32} (hd : decode (am_c S) pc = .ok (.iushr, 1)) (hk : am_T S r ab' (pc + 1) L (.int (x.toUInt32 >>> (y.toUInt32 &&& Int32.toUInt32 31)).toInt32 :: rest) ab k n) : am_T S r ab' pc L (.int y :: .int x :: rest) ab k n := by
  intro l D cI cZ b p e s m args below meth c H locs ls hC hH hS hL hlen
  exact lv_iushr hC.1 hC.2.1 hd rfl (hk l D cI cZ b p e s m args below meth c H locs ls hC hH hS hL hlen)
theorem am_t_idiv {x y : Int32} (hd : decode (am_c S) pc = .ok (.idiv, 1)) (hy : ¬ y = 0) (hk : am_T S r ab' (pc + 1) L (.int (x / y) :: rest) ab k n) : am_T S r ab' pc L (.int y :: .int x :: rest) ab k n := by
  intro l D cI cZ b p e s m args below meth c H locs ls hC hH hS hL hlen
  exact lv_idiv hC.1 hC.2.1 hd hy (hk l D cI cZ b p e s m args below meth c H locs ls hC hH hS hL hlen)
theorem am_t_irem {x y : Int32} (hd : decode (am_c S) pc = .ok (.irem, 1)) (hy : ¬ y = 0) (hk : am_T S r ab' (pc + 1) L (.int (x - x / y * y) :: rest) ab k n) : am_T S r ab' pc L (.int y :: .int x :: rest) ab k n := by
  intro l D cI cZ b p e s m args below meth c H locs ls hC hH hS hL hlen
  exact lv_irem hC.1 hC.2.1 hd hy (hk l D cI cZ b p e s m args below meth c H locs ls hC hH hS hL hlen)
theorem am_t_dup {v : Value} (hd : decode (am_c S) pc = .ok (.dup, 1)) (hv : am_ok v = true) (hk : am_T S r ab' (pc + 1) L (v :: v :: rest) ab k n) : am_T S r ab' pc L (v :: rest) ab k n := by
  intro l D cI cZ b p e s m args below meth c H locs ls hC hH hS hL hlen
  exact lv_dup hC.1 hC.2.1 hd (by rw [am_v_cat]; exact am_ok_cat hv) (hk l D cI cZ b p e s m args below meth c H locs ls hC hH hS hL hlen)
theorem am_t_dup2 {u v : Value} (hd : decode (am_c S) pc = .ok (.dup2, 1)) (hu : am_ok u = true) (hv : am_ok v = true) (hk : am_T S r ab' (pc + 1) L (u :: v :: u :: v :: rest) ab k n) : am_T S r ab' pc L (u :: v :: rest) ab k n := by
  intro l D cI cZ b p e s m args below meth c H locs ls hC hH hS hL hlen
  exact lv_dup2_11 hC.1 hC.2.1 hd (by rw [am_v_cat]; exact am_ok_cat hu) (by rw [am_v_cat]; exact am_ok_cat hv) (hk l D cI cZ b p e s m args below meth c H locs ls hC hH hS hL hlen)
theorem am_t_pop {v : Value} (hd : decode (am_c S) pc = .ok (.pop, 1)) (hv : am_ok v = true) (hk : am_T S r ab' (pc + 1) L rest ab k n) : am_T S r ab' pc L (v :: rest) ab k n := by
  intro l D cI cZ b p e s m args below meth c H locs ls hC hH hS hL hlen
  exact lv_pop hC.1 hC.2.1 hd (by rw [am_v_cat]; exact am_ok_cat hv) (hk l D cI cZ b p e s m args below meth c H locs ls hC hH hS hL hlen)
theorem am_t_null (hd : decode (am_c S) pc = .ok (.aconst_null, 1)) (hk : am_T S r ab' (pc + 1) L (.null :: rest) ab k n) : am_T S r ab' pc L (rest) ab k n := by
  intro l D cI cZ b p e s m args below meth c H locs ls hC hH hS hL hlen
  exact lv_null hC.1 hC.2.1 hd (hk l D cI cZ b p e s m args below meth c H locs ls hC hH hS hL hlen)
theorem am_t_goto {o : Int} {t : Nat} (hd : decode (am_c S) pc = .ok (.goto o, 3)) (ht : (pc : Int) + o = (t : Int)) (hk : am_T S r ab' t L rest ab k n) : am_T S r ab' pc L (rest) ab k n := by
  intro l D cI cZ b p e s m args below meth c H locs ls hC hH hS hL hlen
  exact lv_goto hC.1 hC.2.1 hd ht (hk l D cI cZ b p e s m args below meth c H locs ls hC hH hS hL hlen)
theorem am_t_ifnonnull {o : Int} {t x : Nat} (hd : decode (am_c S) pc = .ok (.ifnonnull o, 3)) (ht : (pc : Int) + o = (t : Int)) (hk : am_T S r ab' t L rest ab k n) : am_T S r ab' pc L (.ref x :: rest) ab k n := by
  intro l D cI cZ b p e s m args below meth c H locs ls hC hH hS hL hlen
  exact lv_ifnonnull hC.1 hC.2.1 hd ht (hk l D cI cZ b p e s m args below meth c H locs ls hC hH hS hL hlen)
theorem am_t_ifnonnullN {o : Int} (hd : decode (am_c S) pc = .ok (.ifnonnull o, 3)) (hk : am_T S r ab' (pc + 3) L rest ab k n) : am_T S r ab' pc L (.null :: rest) ab k n := by
  intro l D cI cZ b p e s m args below meth c H locs ls hC hH hS hL hlen
  exact lv_ifnonnullN hC.1 hC.2.1 hd (hk l D cI cZ b p e s m args below meth c H locs ls hC hH hS hL hlen)
theorem am_t_icmp {x y : Int32} {cc : ClassFile.Cond} {o : Int} {t : Nat} (hd : decode (am_c S) pc = .ok (.if_icmp cc o, 3)) (ht : (pc : Int) + o = (t : Int)) (hk : am_ic cc x y (am_T S r ab' t L rest ab k n) (am_T S r ab' (pc + 3) L rest ab k n)) : am_T S r ab' pc L (.int y :: .int x :: rest) ab k n := by
  intro l D cI cZ b p e s m args below meth c H locs ls hC hH hS hL hlen
  cases cc with
  | eq => exact lv_icmp_eq hC.1 hC.2.1 hd ht (fun h => hk.1 h l D cI cZ b p e s m args below meth c H locs ls hC hH hS hL hlen) (fun h => hk.2 h l D cI cZ b p e s m args below meth c H locs ls hC hH hS hL hlen)
  | ne => exact lv_icmp_ne hC.1 hC.2.1 hd ht (fun h => hk.2 h l D cI cZ b p e s m args below meth c H locs ls hC hH hS hL hlen) (fun h => hk.1 h l D cI cZ b p e s m args below meth c H locs ls hC hH hS hL hlen)
  | lt => exact lv_icmp_lt hC.1 hC.2.1 hd ht (fun h => hk.1 h l D cI cZ b p e s m args below meth c H locs ls hC hH hS hL hlen) (fun h => hk.2 h l D cI cZ b p e s m args below meth c H locs ls hC hH hS hL hlen)
  | ge => exact lv_icmp_ge hC.1 hC.2.1 hd ht (fun h => hk.1 h l D cI cZ b p e s m args below meth c H locs ls hC hH hS hL hlen) (fun h => hk.2 h l D cI cZ b p e s m args below meth c H locs ls hC hH hS hL hlen)
  | gt => exact lv_icmp_gt hC.1 hC.2.1 hd ht (fun h => hk.1 h l D cI cZ b p e s m args below meth c H locs ls hC hH hS hL hlen) (fun h => hk.2 h l D cI cZ b p e s m args below meth c H locs ls hC hH hS hL hlen)
  | le => exact lv_icmp_le hC.1 hC.2.1 hd ht (fun h => hk.1 h l D cI cZ b p e s m args below meth c H locs ls hC hH hS hL hlen) (fun h => hk.2 h l D cI cZ b p e s m args below meth c H locs ls hC hH hS hL hlen)
theorem am_t_if {x : Int32} {cc : ClassFile.Cond} {o : Int} {t : Nat} (hd : decode (am_c S) pc = .ok (.ifCond cc o, 3)) (ht : (pc : Int) + o = (t : Int)) (hk : am_ic cc x (0 : Int32) (am_T S r ab' t L rest ab k n) (am_T S r ab' (pc + 3) L rest ab k n)) : am_T S r ab' pc L (.int x :: rest) ab k n := by
  intro l D cI cZ b p e s m args below meth c H locs ls hC hH hS hL hlen
  cases cc with
  | eq => exact lv_if_eq hC.1 hC.2.1 hd ht (fun h => hk.1 h l D cI cZ b p e s m args below meth c H locs ls hC hH hS hL hlen) (fun h => hk.2 h l D cI cZ b p e s m args below meth c H locs ls hC hH hS hL hlen)
  | ne => exact lv_if_ne hC.1 hC.2.1 hd ht (fun h => hk.2 h l D cI cZ b p e s m args below meth c H locs ls hC hH hS hL hlen) (fun h => hk.1 h l D cI cZ b p e s m args below meth c H locs ls hC hH hS hL hlen)
  | lt => exact lv_if_lt hC.1 hC.2.1 hd ht (fun h => hk.1 h l D cI cZ b p e s m args below meth c H locs ls hC hH hS hL hlen) (fun h => hk.2 h l D cI cZ b p e s m args below meth c H locs ls hC hH hS hL hlen)
  | ge => exact lv_if_ge hC.1 hC.2.1 hd ht (fun h => hk.1 h l D cI cZ b p e s m args below meth c H locs ls hC hH hS hL hlen) (fun h => hk.2 h l D cI cZ b p e s m args below meth c H locs ls hC hH hS hL hlen)
  | gt => exact lv_if_gt hC.1 hC.2.1 hd ht (fun h => hk.1 h l D cI cZ b p e s m args below meth c H locs ls hC hH hS hL hlen) (fun h => hk.2 h l D cI cZ b p e s m args below meth c H locs ls hC hH hS hL hlen)
  | le => exact lv_if_le hC.1 hC.2.1 hd ht (fun h => hk.1 h l D cI cZ b p e s m args below meth c H locs ls hC hH hS hL hlen) (fun h => hk.2 h l D cI cZ b p e s m args below meth c H locs ls hC hH hS hL hlen)
theorem am_t_iaload {j : Int32} {i N : Nat} {f : Nat → Int32} (hd : decode (am_c S) pc = .ok (.iaload, 1)) (hc : am_ls ab i = some (.inl (false, N, f))) (hj : vp_in j N) (hk : am_T S r ab' (pc + 1) L (.int (f j.toNatClampNeg) :: rest) ab k n) : am_T S r ab' pc L (.int j :: .ref i :: rest) ab k n := by
  intro l D cI cZ b p e s m args below meth c H locs ls hC hH hS hL hlen
  exact va_iald hC.1 hC.2.1 hC.2.2.2.2.2.2.2.2.1.1 (am_P hH) i 0 (am_ws_at (by rw [← am_ls_eq]; exact hc)) rfl hj hd (hk l D cI cZ b p e s m args below meth c H locs ls hC hH hS hL hlen)
theorem am_t_baload {j : Int32} {i N : Nat} {f : Nat → Int32} (hd : decode (am_c S) pc = .ok (.baload, 1)) (hc : am_ls ab i = some (.inl (true, N, f))) (hj : vp_in j N) (hk : am_T S r ab' (pc + 1) L (.int (f j.toNatClampNeg) :: rest) ab k n) : am_T S r ab' pc L (.int j :: .ref i :: rest) ab k n := by
  intro l D cI cZ b p e s m args below meth c H locs ls hC hH hS hL hlen
  exact va_zald hC.1 hC.2.1 hC.2.2.2.2.2.2.2.2.1.1 (am_P hH) i 1 (am_ws_at (by rw [← am_ls_eq]; exact hc)) rfl hj hd (hk l D cI cZ b p e s m args below meth c H locs ls hC hH hS hL hlen)
theorem am_t_iastore {j x : Int32} {i N : Nat} {f : Nat → Int32} (hd : decode (am_c S) pc = .ok (.iastore, 1)) (hc : am_ls ab i = some (.inl (false, N, f))) (hj : vp_in j N) (hk : am_T S r ab' (pc + 1) L rest (am_up ab i (.inl (false, N, upd f j.toNatClampNeg x))) k n) : am_T S r ab' pc L (.int x :: .int j :: .ref i :: rest) ab k n := by
  intro l D cI cZ b p e s m args below meth c H locs ls hC hH hS hL hlen
  have ha := am_P hH i _ (am_ws_at (by rw [← am_ls_eq]; exact hc))
  refine W.iast hC.1 hC.2.1 ha ((hC.2.2.2.2.2.2.2.2.1.1.2 0 _ rfl).1 N (fun q => .int (f q))) (fun q => by cases q) (by show ¬ (j < 0 ∨ (arrV _ _ _).slots.size ≤ _); rw [arrV_size]; exact hj) rfl rfl hd fun H1 e1 z1 oq => ?_
  refine hk l D cI cZ b p e s m args below meth c H1 _ ls hC (am_H_set hH hc z1 ?_ oq) (am_S_put hS z1 oq) hL hlen
  show H1[b + i]? = some (vp_cell _ _)
  rw [e1]
  show some ((vp_cell _ _).setSlot _ _) = _
  rw [vp_cell_i, vp_cell_i, arrV_store]
  congr 2
  funext q
  by_cases hq : q = j.toNatClampNeg
  · subst hq
    simp [updV, upd]
    try rfl
  · simp [updV, upd, hq]
theorem am_t_bastore {j x : Int32} {i N : Nat} {f : Nat → Int32} (hd : decode (am_c S) pc = .ok (.bastore, 1)) (hc : am_ls ab i = some (.inl (true, N, f))) (hj : vp_in j N) (hk : am_T S r ab' (pc + 1) L rest (am_up ab i (.inl (true, N, upd f j.toNatClampNeg (vp_nar .boolean x)))) k n) : am_T S r ab' pc L (.int x :: .int j :: .ref i :: rest) ab k n := by
  intro l D cI cZ b p e s m args below meth c H locs ls hC hH hS hL hlen
  have ha := am_P hH i _ (am_ws_at (by rw [← am_ls_eq]; exact hc))
  refine W.zast hC.1 hC.2.1 ha ((hC.2.2.2.2.2.2.2.2.1.1.2 1 _ rfl).1 N (fun q => .int (f q))) (fun q => by cases q) (by show ¬ (j < 0 ∨ (arrV _ _ _).slots.size ≤ _); rw [arrV_size]; exact hj) rfl rfl hd fun H1 e1 z1 oq => ?_
  refine hk l D cI cZ b p e s m args below meth c H1 _ ls hC (am_H_set hH hc z1 ?_ oq) (am_S_put hS z1 oq) hL hlen
  show H1[b + i]? = some (vp_cell _ _)
  rw [e1]
  show some ((vp_cell _ _).setSlot _ _) = _
  rw [vp_cell_i, vp_cell_i, arrV_store]
  congr 2
  funext q
  by_cases hq : q = j.toNatClampNeg
  · subst hq
    simp [updV, upd, vp_nar]
    try rfl
  · simp [updV, upd, hq]
end AMI

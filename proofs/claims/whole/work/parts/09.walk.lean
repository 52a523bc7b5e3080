/-! soundness of the small machine: a walk -/
section AMW
variable {S : am_Sg} {r : Option Value} {ab' : List am_Cl} {K : am_Ps} {pc : Nat} {L rest : List Value} {ab : List am_Cl} {k n : Nat}
theorem am_t_lookup {d : Int} {qs : Array (Int × Int)} {len : Nat} {x : Int32} {t : Nat} {sw : List (Int32 × Nat)} (hd : decode (am_c S) pc = .ok (.lookupswitch d qs, len)) (ht : (pc : Int) + d = (t : Int)) (hsw : sw = am_pl pc qs.toList) (hpos : ∀ o ∈ qs.toList, 0 ≤ (pc : Int) + o.2) (hint : ∀ o ∈ qs.toList, (Int32.ofInt o.1).toInt = o.1) (hso : (qs.toList.zip (qs.toList.drop 1)).all (fun (a, next) => a.1 < next.1) = true) (hu : ∀ q q2 : Int32 × Nat, q ∈ am_pl pc qs.toList → q2 ∈ am_pl pc qs.toList → q.1 = q2.1 → q.2 = q2.2)
    (h : (∃ q ∈ sw, x = q.1 ∧ am_T S r ab' q.2 L rest ab k n) ∨ ((∀ q ∈ sw, ¬ x = q.1) ∧ am_T S r ab' t L rest ab k n)) : am_T S r ab' pc L (.int x :: rest) ab k n := by
  intro l D cI cZ b p e s m args below meth c H locs ls hC hH hS hL hlen
  subst hsw
  obtain ⟨off, tg, g1, g2, g3⟩ := am_off (P := fun t => am_T S r ab' t L rest ab k n) ht hpos hint h hu
  exact lv_lookup hC.1 hC.2.1 hd hso g1 g2 (g3 l D cI cZ b p e s m args below meth c H locs ls hC hH hS hL hlen)
theorem am_cal_T (hK : ∀ pc L st ab k n, K pc L st ab k n → am_T S r ab' pc L st ab k n) {q : am_Sg} {as : List Value} (h : am_cal S q K pc as L rest ab k n) : ∃ (v : Option Value) (ab1 : List am_Cl), am_ct rest ≤ 8 ∧ k + (am_rm q).cells ≤ (am_rm S).cells ∧ n + (am_rm q).slots ≤ (am_rm S).slots ∧ am_Ev q as ab v ab1 ∧ am_T S r ab' pc L (v.toList ++ rest) ab1 (k + (am_rm q).cells) (n + (am_rm q).slots) := by
  unfold am_cal at h
  cases hb : (Nat.ble (am_ct rest) 8 && Nat.ble (k + (am_rm q).cells) (am_rm S).cells && Nat.ble (n + (am_rm q).slots) (am_rm S).slots) with
  | false => rw [hb] at h; exact h.elim
  | true =>
    rw [hb] at h
    simp only [Bool.and_eq_true, Nat.ble_eq] at hb
    obtain ⟨v, ab1, h1, h2⟩ := h
    refine ⟨v, ab1, hb.1.1, hb.1.2, hb.2, h1, ?_⟩
    cases hz : (Nat.beq (am_rm q).cells 0 && Nat.beq (am_rm q).slots 0) with
    | false => rw [hz] at h2; exact hK _ _ _ _ _ _ h2
    | true =>
      rw [hz] at h2
      simp only [Bool.and_eq_true] at hz
      rw [Nat.eq_of_beq_eq_true hz.1, Nat.eq_of_beq_eq_true hz.2]
      exact hK _ _ _ _ _ _ h2
set_option maxHeartbeats 4000000 in
theorem am_s1_T (hK : ∀ pc L st ab k n, K pc L st ab k n → am_T S r ab' pc L st ab k n) {w : am_Rw} (hw : am_rkb S pc w = true) {st : List Value} (h : am_s1 S r ab' (am_T S r ab') K w pc L st ab k n) : am_T S r ab' pc L st ab k n := by
  obtain ⟨ins, aux, lit, ref, cs, qs, sw, ps⟩ := w
  cases ins with
  | iconst i =>
    simp only [am_rkb, Bool.and_eq_true, decide_eq_true_eq] at hw
    exact am_t_iconst hw.1 hw.2 (hK _ _ _ _ _ _ h)
  | bipush i =>
    simp only [am_rkb, Bool.and_eq_true, decide_eq_true_eq] at hw
    exact am_t_bipush hw.1 hw.2 (hK _ _ _ _ _ _ h)
  | sipush i =>
    simp only [am_rkb, Bool.and_eq_true, decide_eq_true_eq] at hw
    exact am_t_sipush hw.1 hw.2 (hK _ _ _ _ _ _ h)
  | ldc i =>
    simp only [am_rkb, Bool.and_eq_true, decide_eq_true_eq] at hw
    exact am_t_ldc hw.1 (am_at_in hw.2) (hK _ _ _ _ _ _ h)
  | iload_n i =>
    simp only [am_rkb, decide_eq_true_eq] at hw
    simp only [am_s1] at h
    split at h
    · rename_i x hx; exact am_t_iload_n hw hx (hK _ _ _ _ _ _ h)
    · exact h.elim
  | iload i =>
    simp only [am_rkb, decide_eq_true_eq] at hw
    simp only [am_s1] at h
    split at h
    · rename_i x hx; exact am_t_iload hw hx (hK _ _ _ _ _ _ h)
    · exact h.elim
  | aload_n i =>
    simp only [am_rkb, decide_eq_true_eq] at hw
    simp only [am_s1] at h
    split at h
    · rename_i x hx; exact am_t_aload_n hw hx (hK _ _ _ _ _ _ h)
    · rename_i hx; exact am_t_aload_nN hw hx (hK _ _ _ _ _ _ h)
    · exact h.elim
  | istore_n i =>
    simp only [am_rkb, decide_eq_true_eq] at hw
    simp only [am_s1] at h
    split at h
    · split at h
      · rename_i hu; exact am_t_istore_n hw hu (hK _ _ _ _ _ _ h)
      · exact h.elim
    · exact h.elim
  | istore i =>
    simp only [am_rkb, decide_eq_true_eq] at hw
    simp only [am_s1] at h
    split at h
    · split at h
      · rename_i hu; exact am_t_istore hw hu (hK _ _ _ _ _ _ h)
      · exact h.elim
    · exact h.elim
  | astore_n i =>
    simp only [am_rkb, decide_eq_true_eq] at hw
    simp only [am_s1] at h
    split at h
    · split at h
      · rename_i hu; exact am_t_astore_n hw hu (hK _ _ _ _ _ _ h)
      · exact h.elim
    · split at h
      · rename_i hu; exact am_t_astore_nN hw hu (hK _ _ _ _ _ _ h)
      · exact h.elim
    · exact h.elim
  | iinc i d =>
    simp only [am_rkb, Bool.and_eq_true, decide_eq_true_eq] at hw
    simp only [am_s1] at h
    split at h
    · rename_i hu; exact am_t_iinc hw.1 hw.2 hu (hK _ _ _ _ _ _ h)
    · exact h.elim
  | iadd =>
    simp only [am_rkb, decide_eq_true_eq] at hw
    simp only [am_s1] at h
    split at h
    · exact am_t_iadd hw (hK _ _ _ _ _ _ h)
    · exact h.elim
  | isub =>
    simp only [am_rkb, decide_eq_true_eq] at hw
    simp only [am_s1] at h
    split at h
    · exact am_t_isub hw (hK _ _ _ _ _ _ h)
    · exact h.elim
  | imul =>
    simp only [am_rkb, decide_eq_true_eq] at hw
    simp only [am_s1] at h
    split at h
    · exact am_t_imul hw (hK _ _ _ _ _ _ h)
    · exact h.elim
  | iand =>
    simp only [am_rkb, decide_eq_true_eq] at hw
    simp only [am_s1] at h
    split at h
    · exact am_t_iand hw (hK _ _ _ _ _ _ h)
    · exact h.elim
  | ior =>
    simp only [am_rkb, decide_eq_true_eq] at hw
    simp only [am_s1] at h
    split at h
    · exact am_t_ior hw (hK _ _ _ _ _ _ h)
    · exact h.elim
  | ishl =>
    simp only [am_rkb, decide_eq_true_eq] at hw
    simp only [am_s1] at h
    split at h
    · exact am_t_ishl hw (hK _ _ _ _ _ _ h)
    · exact h.elim
  | ishr =>
    simp only [am_rkb, decide_eq_true_eq] at hw
    simp only [am_s1] at h
    split at h
    · exact am_t_ishr hw (hK _ _ _ _ _ _ h)
    · exact h.elim
  | iushr =>
    simp only [am_rkb, decide_eq_true_eq] at hw
    simp only [am_s1] at h
    split at h
    · exact am_t_iushr hw (hK _ _ _ _ _ _ h)
    · exact h.elim
  | idiv =>
    simp only [am_rkb, decide_eq_true_eq] at hw
    simp only [am_s1] at h
    split at h
    · rename_i y x rest
      by_cases hy : y = 0
      · simp only [hy, decide_true, cond_true] at h
      · simp only [hy, decide_false, cond_false] at h
        exact am_t_idiv hw hy (hK _ _ _ _ _ _ h)
    · exact h.elim
  | irem =>
    simp only [am_rkb, decide_eq_true_eq] at hw
    simp only [am_s1] at h
    split at h
    · rename_i y x rest
      by_cases hy : y = 0
      · simp only [hy, decide_true, cond_true] at h
      · simp only [hy, decide_false, cond_false] at h
        exact am_t_irem hw hy (hK _ _ _ _ _ _ h)
    · exact h.elim
  | dup =>
    simp only [am_rkb, decide_eq_true_eq] at hw
    simp only [am_s1] at h
    split at h
    · rename_i v rest
      cases hv : am_ok v with
      | false => simp only [hv, cond_false] at h
      | true =>
        simp only [hv, cond_true] at h
        exact am_t_dup hw hv (hK _ _ _ _ _ _ h)
    · exact h.elim
  | dup2 =>
    simp only [am_rkb, decide_eq_true_eq] at hw
    simp only [am_s1] at h
    split at h
    · rename_i u v rest
      cases hv : (am_ok u && am_ok v) with
      | false => simp only [hv, cond_false] at h
      | true =>
        simp only [hv, cond_true] at h
        simp only [Bool.and_eq_true] at hv
        exact am_t_dup2 hw hv.1 hv.2 (hK _ _ _ _ _ _ h)
    · exact h.elim
  | pop =>
    simp only [am_rkb, decide_eq_true_eq] at hw
    simp only [am_s1] at h
    split at h
    · rename_i v rest
      cases hv : am_ok v with
      | false => simp only [hv, cond_false] at h
      | true =>
        simp only [hv, cond_true] at h
        exact am_t_pop hw hv (hK _ _ _ _ _ _ h)
    · exact h.elim
  | aconst_null =>
    simp only [am_rkb, decide_eq_true_eq] at hw
    exact am_t_null hw (hK _ _ _ _ _ _ h)
  | if_icmp c o =>
    simp only [am_rkb, Bool.and_eq_true, decide_eq_true_eq] at hw
    simp only [am_s1] at h
    split at h
    · exact am_t_icmp hw.1 hw.2 (am_ic_imp (am_go_T hK) (hK _ _ _ _ _ _) h)
    · exact h.elim
  | ifCond c o =>
    simp only [am_rkb, Bool.and_eq_true, decide_eq_true_eq] at hw
    simp only [am_s1] at h
    split at h
    · exact am_t_if hw.1 hw.2 (am_ic_imp (am_go_T hK) (hK _ _ _ _ _ _) h)
    · exact h.elim
  | ifnonnull o =>
    simp only [am_rkb, Bool.and_eq_true, decide_eq_true_eq] at hw
    simp only [am_s1] at h
    split at h
    · exact am_t_ifnonnull hw.1 hw.2 (am_go_T hK h)
    · exact am_t_ifnonnullN hw.1 (hK _ _ _ _ _ _ h)
    · exact h.elim
  | goto o =>
    simp only [am_rkb, Bool.and_eq_true, decide_eq_true_eq] at hw
    exact am_t_goto hw.1 hw.2 (am_go_T hK h)
  | tableswitch d lo hi os =>
    simp only [am_rkb, Bool.and_eq_true, decide_eq_true_eq, List.all_eq_true] at hw
    obtain ⟨⟨⟨⟨⟨⟨h1, h2⟩, h3⟩, h4⟩, h5⟩, h6⟩, h7⟩ := hw
    simp only [am_s1] at h
    split at h
    · split at h1
      · rename_i i len hd
        rw [decide_eq_true_eq] at h1
        rw [h1] at hd
        exact am_t_table hd h2 h3 h4 h5 h6 h7 (am_sw_T hK h)
      · cases h1
    · exact h.elim
  | lookupswitch d qs =>
    simp only [am_rkb, Bool.and_eq_true] at hw
    obtain ⟨⟨⟨⟨⟨⟨h1, h2⟩, h3⟩, h4⟩, h5⟩, h6⟩, h7⟩ := hw
    simp only [am_s1] at h
    split at h
    · split at h1
      · rename_i i len hd
        rw [decide_eq_true_eq] at h1 h2 h3
        rw [h1] at hd
        simp only [List.all_eq_true, decide_eq_true_eq] at h4 h5
        refine am_t_lookup hd h2 h3 h4 h5 h6 ?_ (am_sw_T hK h)
        intro q q2 hq hq2 he
        have := List.all_eq_true.mp (List.all_eq_true.mp h7 q hq) q2 hq2
        simpa [he] using this
      · cases h1
    · exact h.elim
  | getfield i =>
    simp only [am_rkb, Bool.and_eq_true, decide_eq_true_eq, List.all_eq_true] at hw
    simp only [am_s1] at h
    split at h
    · split at h
      · rename_i ci fs hc
        cases hv : am_in cs ci with
        | false => simp only [hv, cond_false] at h
        | true =>
          simp only [hv, cond_true] at h
          split at h
          · rename_i v hv2
            exact am_t_getfield hw.1 (am_fkb_ok (hw.2 _ (am_in_mem hv))) hc hv2 (hK _ _ _ _ _ _ h)
          · exact h.elim
      · exact h.elim
    · exact h.elim
  | putfield i =>
    simp only [am_rkb, Bool.and_eq_true, decide_eq_true_eq, List.all_eq_true] at hw
    simp only [am_s1] at h
    split at h
    · rename_i v j rest
      split at h
      · rename_i ci fs hc
        cases hv : (am_in cs ci && am_fv lit v) with
        | false => simp only [hv, cond_false] at h
        | true =>
          simp only [hv, cond_true] at h
          simp only [Bool.and_eq_true] at hv
          split at h
          · rename_i u hu
            exact am_t_putfield hw.1 (am_pkb_ok (hw.2 _ (am_in_mem hv.1))) hc hu hv.2 (hK _ _ _ _ _ _ h)
          · exact h.elim
      · exact h.elim
    · exact h.elim
  | iaload =>
    simp only [am_rkb, decide_eq_true_eq] at hw
    simp only [am_s1] at h
    split at h
    · split at h
      · rename_i hc; exact am_t_iaload hw hc h.1 (hK _ _ _ _ _ _ h.2)
      · exact h.elim
    · exact h.elim
  | iastore =>
    simp only [am_rkb, decide_eq_true_eq] at hw
    simp only [am_s1] at h
    split at h
    · split at h
      · rename_i hc; exact am_t_iastore hw hc h.1 (hK _ _ _ _ _ _ h.2)
      · exact h.elim
    · exact h.elim
  | baload =>
    simp only [am_rkb, decide_eq_true_eq] at hw
    simp only [am_s1] at h
    split at h
    · split at h
      · rename_i hc; exact am_t_baload hw hc h.1 (hK _ _ _ _ _ _ h.2)
      · exact h.elim
    · exact h.elim
  | bastore =>
    simp only [am_rkb, decide_eq_true_eq] at hw
    simp only [am_s1] at h
    split at h
    · split at h
      · rename_i hc; exact am_t_bastore hw hc h.1 (hK _ _ _ _ _ _ h.2)
      · exact h.elim
    · exact h.elim
  | newarray t =>
    simp only [am_rkb, Bool.and_eq_true, Bool.or_eq_true, decide_eq_true_eq] at hw
    obtain ⟨⟨⟨⟨⟨h1, h2⟩, h3⟩, h4⟩, h5⟩, h6⟩ := hw
    simp only [am_s1] at h
    split at h
    · rename_i c rest
      cases hv : (decide (c = lit) && Nat.ble (k + 1) (am_rm S).cells && Nat.ble (n + aux) (am_rm S).slots) with
      | false => simp only [hv, cond_false] at h
      | true =>
        simp only [hv, cond_true] at h
        simp only [Bool.and_eq_true, Nat.ble_eq, decide_eq_true_eq] at hv
        obtain ⟨⟨rfl, g1⟩, g2⟩ := hv
        exact am_t_newarray h1 (am_at_in h2) h3 h4 h5 h6 g1 g2 (hK _ _ _ _ _ _ h)
    · exact h.elim
  | new i =>
    simp only [am_rkb, Bool.and_eq_true, decide_eq_true_eq] at hw
    obtain ⟨h1, h2⟩ := hw
    split at h2
    · rename_i C T N hc
      simp only [Bool.and_eq_true, decide_eq_true_eq] at h2
      obtain ⟨⟨⟨rfl, g2⟩, g3⟩, g4⟩ := h2
      simp only [am_s1] at h
      cases hv : (Nat.ble (k + 1) (am_rm S).cells && Nat.ble (n + (am_df aux).length) (am_rm S).slots) with
      | false => simp only [hv, cond_false] at h
      | true =>
        simp only [hv, cond_true] at h
        simp only [Bool.and_eq_true, Nat.ble_eq] at hv
        exact am_t_new h1 hc (am_at_in g2) (am_at_in g3) (am_at_in g4) hv.1 hv.2 (hK _ _ _ _ _ _ h)
    · cases h2
  | invokestatic i =>
    cases qs with
    | cons q0 l0 =>
      simp only [am_rkb, Bool.and_eq_true, decide_eq_true_eq] at hw
      obtain ⟨h1, ⟨g1, g2⟩, g3⟩ := hw
      simp only [am_s1] at h
      split at h
      · rename_i as rest htk
        obtain ⟨e1, rfl⟩ := am_tk_len htk
        obtain ⟨v, ab1, c1, c2, c3, c4, c5⟩ := am_cal_T hK h
        exact am_t_static h1 c4 (by rw [e1]; exact am_qkb_ok g1) (am_at_in g2) (am_lkb_ok g3) c1 c2 c3 c5
      · exact h.elim
    | nil =>
      cases cs with
      | nil =>
        simp only [am_rkb, Bool.and_eq_true, decide_eq_true_eq] at hw
        obtain ⟨h1, ⟨⟨⟨⟨g1, g2⟩, g3⟩, g4⟩, g5⟩, g6⟩ := hw
        simp only [am_s1] at h
        split at h
        · rename_i y x rest
          cases hv : (Nat.ble (am_ct rest) 8 && Nat.ble k (am_rm S).cells && Nat.ble n (am_rm S).slots) with
          | false => simp only [hv, cond_false] at h
          | true =>
            simp only [hv, cond_true] at h
            simp only [Bool.and_eq_true, Nat.ble_eq] at hv
            exact am_t_min h1 (am_at_in g1) (am_at_in g2) (am_at_in g3) (am_at_in g4) g5 g6 hv.1.1 hv.1.2 hv.2 (hK _ _ _ _ _ _ h)
        · exact h.elim
      | cons c0 l0 =>
        simp only [am_rkb, Bool.and_eq_true, decide_eq_true_eq] at hw
        obtain ⟨h1, ⟨⟨⟨⟨⟨⟨g1, g2⟩, g3⟩, g4⟩, g5⟩, g6⟩, g7⟩, g8⟩ := hw
        simp only [am_s1] at h
        split at h
        · rename_i c dp a1 sp a0 rest
          split at h
          · rename_i n0 f n1 g hc0 hc1
            cases hv : (Nat.ble (am_ct rest) 8 && decide (c = lit) && decide (dp = 0) && decide (sp = 0) && Nat.ble aux n0 && Nat.ble aux n1) with
            | false => simp only [hv, cond_false] at h
            | true =>
              simp only [hv, cond_true] at h
              simp only [Bool.and_eq_true, Nat.ble_eq, decide_eq_true_eq] at hv
              obtain ⟨⟨⟨⟨⟨b1, rfl⟩, rfl⟩, rfl⟩, b5⟩, b6⟩ := hv
              exact am_t_copy h1 (am_at_in g1) (am_at_in g2) (am_at_in g3) (am_at_in g4) g5 g6 b1 g7 g8 hc0 hc1 b5 b6 (hK _ _ _ _ _ _ h)
          · exact h.elim
        · exact h.elim
  | invokevirtual i =>
    simp only [am_rkb, Bool.and_eq_true, decide_eq_true_eq] at hw
    obtain ⟨h1, h2⟩ := hw
    simp only [am_s1] at h
    split at h
    · rename_i as j rest htk
      split at h
      · rename_i ci fs hc
        split at h
        · rename_i q hq
          obtain ⟨e1, rfl⟩ := am_tk_len htk
          obtain ⟨v, ab1, c1, c2, c3, c4, c5⟩ := am_cal_T hK h
          have hv := am_vall_ok h2 _ (am_cl_mem hq)
          exact am_t_virtual h1 c4 (by rw [e1]; exact hv.1) hv.2 hc c1 c2 c3 c5
        · exact h.elim
      · exact h.elim
    · exact h.elim
  | invokespecial i =>
    cases qs with
    | cons q0 l0 =>
      simp only [am_rkb, Bool.and_eq_true, decide_eq_true_eq] at hw
      obtain ⟨h1, ⟨⟨⟨g1, g2⟩, g3⟩, g4⟩, g5⟩ := hw
      simp only [am_s1] at h
      split at h
      · rename_i as j rest htk
        obtain ⟨e1, rfl⟩ := am_tk_len htk
        obtain ⟨v, ab1, c1, c2, c3, c4, c5⟩ := am_cal_T hK h
        exact am_t_special h1 c4 (by rw [e1]; exact am_qkb_ok g1) (am_at_in g2) g3 g4 (am_lkb_ok g5) c1 c2 c3 c5
      · exact h.elim
    | nil =>
      simp only [am_rkb, Bool.and_eq_true, decide_eq_true_eq] at hw
      obtain ⟨h1, ⟨⟨⟨g1, g2⟩, g3⟩, g4⟩, g5⟩ := hw
      simp only [am_s1] at h
      split at h
      · rename_i j rest
        cases hv : Nat.ble (am_ct rest) 8 with
        | false => simp only [hv, cond_false] at h
        | true =>
          simp only [hv, cond_true] at h
          rw [Nat.ble_eq] at hv
          exact am_t_objInit h1 (am_at_in g1) (am_at_in g2) (am_at_in g3) g4 g5 hv (hK _ _ _ _ _ _ h)
      · exact h.elim
  | ireturn =>
    simp only [am_rkb, decide_eq_true_eq] at hw
    simp only [am_s1] at h
    split at h
    · cases hv : (Nat.ble k (am_rm S).cells && Nat.ble n (am_rm S).slots) with
      | false => simp only [hv, cond_false] at h
      | true =>
        simp only [hv, cond_true] at h
        simp only [Bool.and_eq_true, Nat.ble_eq] at hv
        obtain ⟨rfl, rfl, ty, g1, g2⟩ := h
        exact am_t_ireturn hw g1 g2 hv.1 hv.2
    · exact h.elim
  | return_ =>
    simp only [am_rkb, decide_eq_true_eq] at hw
    simp only [am_s1] at h
    split at h
    · cases hv : (Nat.ble k (am_rm S).cells && Nat.ble n (am_rm S).slots) with
      | false => simp only [hv, cond_false] at h
      | true =>
        simp only [hv, cond_true] at h
        simp only [Bool.and_eq_true, Nat.ble_eq] at hv
        obtain ⟨rfl, rfl, g1⟩ := h
        exact am_t_return hw g1 hv.1 hv.2
    · exact h.elim
  | areturn =>
    simp only [am_rkb, decide_eq_true_eq] at hw
    simp only [am_s1] at h
    split at h
    · rename_i v
      cases hv : (Nat.ble k (am_rm S).cells && Nat.ble n (am_rm S).slots && am_fv 2 v) with
      | false => simp only [hv, cond_false] at h
      | true =>
        simp only [hv, cond_true] at h
        simp only [Bool.and_eq_true, Nat.ble_eq] at hv
        obtain ⟨rfl, rfl, nm, g1⟩ := h
        exact am_t_areturn hw g1 hv.2 hv.1.1 hv.1.2
    · exact h.elim
  | _ => exact False.elim h
theorem am_wp_T {cd : am_Cd} (hg : am_Good S cd) : ∀ (f : Nat) {pc : Nat} {L st : List Value} {ab : List am_Cl} {k n : Nat}, am_wp S cd r ab' f pc L st ab k n → am_T S r ab' pc L st ab k n
  | 0, pc, L, st, ab, k, n, h => h
  | f + 1, pc, L, st, ab, k, n, h => by
    rw [am_wp] at h
    split at h
    · rename_i q hq
      obtain ⟨h1, h2⟩ := am_Good_row hg hq
      rw [h2] at h h1
      exact am_s1_T (fun pc L st ab k n hh => am_wp_T hg f hh) h1 h
    · exact h.elim
theorem am_args : ∀ (as : List Value) (i : Nat) (b : Nat), (∀ v ∈ as, am_ok v = true) → ∀ (j : Nat) (v : Value), as[j]? = some v → (i + j, am_v b v) ∈ lv_args i (as.map (am_v b))
  | [], i, b, _, j, v, h => by simp at h
  | a :: as, i, b, ho, 0, v, h => by
    simp at h
    subst h
    simp [lv_args]
  | a :: as, i, b, ho, j + 1, v, h => by
    have hc : (am_v b a).category = 1 := by rw [am_v_cat]; exact am_ok_cat (ho a List.mem_cons_self)
    have := am_args as (i + 1) b (fun v hv => ho v (List.mem_cons_of_mem _ hv)) j v (by simpa using h)
    simp only [List.map_cons, lv_args, hc]
    refine List.mem_cons_of_mem _ ?_
    rw [show i + (j + 1) = i + 1 + j by omega]
    exact this
theorem am_sl_len (b : Nat) : ∀ (as : List Value), (∀ v ∈ as, am_ok v = true) → (lg_sl (as.map (am_v b))).length = as.length
  | [], _ => rfl
  | a :: as, ho => by
    have := am_sl_len b as (fun v hv => ho v (List.mem_cons_of_mem _ hv))
    have h1 := ho a List.mem_cons_self
    cases a <;> first | (simp [am_ok] at h1; done) | (simp_all [lg_sl, am_v, Value.category]; try omega)
/-- a contract out of the walk of its body; what isn't an argument is the mark retAddr 0 -/
theorem am_Ev_of {as : List Value} (hcw : am_cw S ∈ am_gw) (hpl : plainName (am_y S).cls = true) (ho : as.all am_ok = true) (hle : Nat.ble as.length (am_l S) = true)
    (h : am_T S r ab' 0 (as ++ List.replicate (am_l S - as.length) (.retAddr 0)) [] ab 0 0) : am_Ev S as ab r ab' := by
  refine ⟨hcw, fun l D cI cZ b => ?_⟩
  have hle : as.length ≤ am_l S := Nat.le_of_ble_eq_true hle
  have ho : ∀ v ∈ as, am_ok v = true := List.all_eq_true.mp ho
  refine Met.ofW (cc := am_c S) (maxL := am_l S) (ret := am_r S) hpl rfl ?_
  intro p e s m args below meth c s₁ B hml hv
  obtain ⟨rfl, hH, hK⟩ := hv
  have hts := atoms_spec (ws := am_cw S :: am_gw) B.pre
  have hown : s.vm.findClass (am_y S).cls = some m.cls := findClass_of_methodNamed B.named
  have hin : meth.name = (am_y S).name := (name_of_methodNamed B.named B.method).1
  have hl := lv_entry (as.map (am_v b)) (n := am_l S) (by rw [am_sl_len b as ho]; exact hle)
  rw [lg_entry_eq]
  refine h l D cI cZ b p e s m _ below meth c s.heap [] _ ⟨B.exec, B.bytes, B.returns, B.notSynchronized, hml, hown, hin, fun w hw => hts w (List.mem_cons_of_mem _ hw), hK, ?_⟩ hH va_S.rf ?_ ?_
  · rw [hH.1]; exact Nat.le_add_right _ _
  · refine ⟨hl.1, hl.2.1, fun q hq => ?_⟩
    obtain ⟨v, h1, h2, h3⟩ := am_lv_inv hq
    have h4 : as[q.1]? = some v := by
      by_cases hj : q.1 < as.length
      · rw [List.getElem?_append_left hj] at h1; exact h1
      · rw [List.getElem?_append_right (by omega)] at h1
        have := List.mem_of_getElem? h1
        rw [List.eq_of_mem_replicate this] at h2
        cases h2
    have := hl.2.2 _ (by have := am_args as 0 b ho q.1 v h4; rw [Nat.zero_add] at this; exact this)
    rw [h3]; exact this
  · simp; omega
end AMW

/-! the runners' common parts, class and reference in lockstep -/
theorem c32 : (32 : Int32).toInt = 32 := rfl
theorem c31 : (31 : Int32).toInt = 31 := rfl
theorem c40 : (40 : Int32).toInt = 40 := rfl
theorem c64 : (64 : Int32).toInt = 64 := rfl
theorem c63 : (63 : Int32).toInt = 63 := rfl
theorem c10 : (10 : Int32).toInt = 10 := rfl
theorem n00 : Int32.toNatClampNeg (0 : Int32) = 0 := rfl
theorem n11 : Int32.toNatClampNeg (1 : Int32) = 1 := rfl
theorem tr14_0 {i : Nat → Int32} {a : Nat → Nat → Int32} {c : Nat → Nat → Int32} {k : Nat} {v : Int32} (h : IvT i a c) (hk : k < 32) : IvT i a (sA c (upd (c 14) k v) 14) := by
  obtain ⟨m1, m2, m3, m4, m5, m6, m7, m8, m9, m10⟩ := h
  refine ⟨fun r hr => ?_, m2, m3, m4, m5, m6, m7, m8, m9, m10⟩
  show a 18 r = upd (c 14) k v (32 + r)
  rw [upd_ne _ _ (by omega)]
  exact m1 r hr
theorem tr15_0 {i : Nat → Int32} {a : Nat → Nat → Int32} {c : Nat → Nat → Int32} {k : Nat} {v : Int32} (h : IvT i a c) (hk : k < 16) : IvT i a (sA c (upd (c 15) k v) 15) := by
  obtain ⟨m1, m2, m3, m4, m5, m6, m7, m8, m9, m10⟩ := h
  refine ⟨m1, fun r hr => ?_, m3, m4, m5, m6, m7, m8, m9, m10⟩
  show a 19 r = upd (c 15) k v (16 + r)
  rw [upd_ne _ _ (by omega)]
  exact m2 r hr
theorem tr16_0 {i : Nat → Int32} {a : Nat → Nat → Int32} {c : Nat → Nat → Int32} {k : Nat} {v : Int32} (h : IvT i a c) (hk : k < 40) : IvT i a (sA c (upd (c 16) k v) 16) := by
  obtain ⟨m1, m2, m3, m4, m5, m6, m7, m8, m9, m10⟩ := h
  refine ⟨m1, m2, fun r hr => ?_, m4, m5, m6, m7, m8, m9, m10⟩
  show a 20 r = upd (c 16) k v (40 + r)
  rw [upd_ne _ _ (by omega)]
  exact m3 r hr
theorem tr17_0 {i : Nat → Int32} {a : Nat → Nat → Int32} {c : Nat → Nat → Int32} {v : Int32} (h : IvT i a c) : IvT i a (sA c (upd (c 17) 0 v) 17) := h
theorem tr18_0 {i : Nat → Int32} {a : Nat → Nat → Int32} {c : Nat → Nat → Int32} {v : Int32} (h : IvT i a c) : IvT i a (sA c (upd (c 18) 0 v) 18) := h
theorem tr19_0 {i : Nat → Int32} {a : Nat → Nat → Int32} {c : Nat → Nat → Int32} {v : Int32} (h : IvT i a c) : IvT i a (sA c (upd (c 19) 0 v) 19) := h
theorem tr20_0 {i : Nat → Int32} {a : Nat → Nat → Int32} {c : Nat → Nat → Int32} {v : Int32} (h : IvT i a c) : IvT i a (sA c (upd (c 20) 0 v) 20) := h
/-- in lockstep, while it runs -/
def SM0 (i : Nat → Int32) (a : Nat → Nat → Int32) (j : Nat → Int32) (c : Nat → Nat → Int32) : Prop :=
  (∀ r : Nat, r < 32 → a 15 r = c 14 r) ∧ (∀ r : Nat, r < 16 → a 16 r = c 15 r) ∧ (∀ r : Nat, r < 40 → a 17 r = c 16 r) ∧ c 17 0 = i 9 ∧ c 18 0 = i 10 ∧ c 19 0 = i 11 ∧ 0 ≤ (i 9).toInt ∧ (i 9).toInt ≤ 40 ∧ a 15 0 = 0 ∧ 0 ≤ (j 6).toInt ∧ (j 6).toInt ≤ (j 5).toInt ∧ (j 6).toInt ≤ (i 8).toInt ∧ (i 8).toInt ≤ 20 ∧ ((j 6).toInt < (j 5).toInt → i 8 = j 6) ∧ c 20 0 = 1
def RS0 (i : Nat → Int32) (a : Nat → Nat → Int32) (j : Nat → Int32) (c : Nat → Nat → Int32) : Prop := IvP i a j c ∧ IvB i a j c ∧ IvC i a j c ∧ IvI i a j c ∧ IvT i a c
def RR0 (i : Nat → Int32) (a : Nat → Nat → Int32) (j : Nat → Int32) (c : Nat → Nat → Int32) : Prop := RS0 i a j c ∧ SM0 i a j c
theorem rr_inv0 {i : Nat → Int32} {a : Nat → Nat → Int32} {j : Nat → Int32} {c : Nat → Nat → Int32} (h : RR0 i a j c) : Inv i a j c := by
  obtain ⟨⟨hP, hB, hC, hI, hO⟩, s1, s2, s3, s4, s5, s6, s7, s8, s9, s10, s11, s12, s13, s14, s15⟩ := h
  exact ⟨hP, hB, hC, hI, ⟨s1, s2, s3, s4, s5, s6, s7, s8, fun e => absurd (s15.symm.trans e) (by decide), s9⟩, hO⟩
theorem zr0 {q : Int32} (h0 : 0 ≤ q.toInt) (h1 : q.toInt ≤ 31) : Int32.toNatClampNeg (((32 : Int32) * (0 : Int32)) + q) = q.toNatClampNeg := by
  have hk := tn_of h0
  have := off_n (m := (32 : Int32) * (0 : Int32)) (M := 0) rfl hk.symm (by omega)
  omega
theorem zw0 {q : Int32} (h0 : 0 ≤ q.toInt) (h1 : q.toInt ≤ 15) : Int32.toNatClampNeg (((16 : Int32) * (0 : Int32)) + q) = q.toNatClampNeg := by
  have hk := tn_of h0
  have := off_n (m := (16 : Int32) * (0 : Int32)) (M := 0) rfl hk.symm (by omega)
  omega
theorem zo0 {q : Int32} (h0 : 0 ≤ q.toInt) (h1 : q.toInt ≤ 39) : Int32.toNatClampNeg (((40 : Int32) * (0 : Int32)) + q) = q.toNatClampNeg := by
  have hk := tn_of h0
  have := off_n (m := (40 : Int32) * (0 : Int32)) (M := 0) rfl hk.symm (by omega)
  omega
theorem gt0 {i : Nat → Int32} {a : Nat → Nat → Int32} {j : Nat → Int32} {c : Nat → Nat → Int32} (h : SM0 i a j c) (q : Int32) (h0 : 0 ≤ q.toInt) (h1 : q.toInt ≤ 31) : rU_get_M i a q = rZ_get0 j c q := by
  have hk := tn_of h0
  unfold rU_get_M rZ_get0
  rw [if_neg (show ¬ q < 0 by rw [lt_i, c0]; omega), if_neg (show ¬ (32 : Int32) ≤ q by rw [le_i, c32]; omega), zr0 h0 h1]
  exact h.1 _ (by omega)
theorem se0 {i : Nat → Int32} {a : Nat → Nat → Int32} {j : Nat → Int32} {c : Nat → Nat → Int32} (h : RR0 i a j c) (q v : Int32) (h0 : 0 ≤ q.toInt) (h1 : q.toInt ≤ 31) : RR0 i (aU_set_M i a q v) j (aZ_set0 j c q v) := by
  obtain ⟨⟨hP, hB, hC, hI, hO⟩, s1, s2, s3, s4, s5, s6, s7, s8, s9, s10, s11, s12, s13, s14, s15⟩ := h
  have hk := tn_of h0
  unfold aU_set_M aZ_set0
  rw [zr0 h0 h1]
  by_cases hq : q = 0
  · subst hq
    rw [if_pos (show (0 : Int32) ≤ 0 by decide), if_pos rfl]
    refine ⟨⟨hP, hB, hC, hI, tr14_0 hO (by omega)⟩, ⟨fun r hr => ?_, s2, s3, s4, s5, s6, s7, s8, s9, s10, s11, s12, s13, s14, s15⟩⟩
    show a 15 r = upd (c 14) (Int32.toNatClampNeg (0 : Int32)) 0 r
    rw [n00]
    by_cases hr0 : r = 0
    · subst hr0; rw [upd_at, s9]
    · rw [upd_ne _ _ (by omega)]; exact s1 r hr
  · have hne : ¬ q.toInt = 0 := fun e => hq (Int32.toInt_inj.mp e)
    rw [if_neg (show ¬ q ≤ 0 by rw [le_i, c0]; omega), if_neg (show ¬ (32 : Int32) ≤ q by rw [le_i, c32]; omega), if_neg hq]
    refine ⟨⟨hP, hB, hC, hI, tr14_0 hO (by omega)⟩, ⟨fun r hr => ?_, s2, s3, s4, s5, s6, s7, s8, ?_, s10, s11, s12, s13, s14, s15⟩⟩
    · show upd (a 15) q.toNatClampNeg v r = upd (c 14) q.toNatClampNeg v r
      by_cases hr0 : r = q.toNatClampNeg
      · subst hr0; rw [upd_at, upd_at]
      · rw [upd_ne _ _ hr0, upd_ne _ _ (by omega)]; exact s1 r hr
    · show upd (a 15) q.toNatClampNeg v 0 = 0
      rw [upd_ne _ _ (by omega)]; exact s9
theorem pl0 {i : Nat → Int32} {a : Nat → Nat → Int32} {j : Nat → Int32} {c : Nat → Nat → Int32} (h : RR0 i a j c) (v : Int32) : RR0 (sI i v 11) a j (sA c (upd (c 19) (Int32.toNatClampNeg (0 : Int32)) v) 19) := by
  obtain ⟨⟨hP, hB, hC, hI, hO⟩, s1, s2, s3, s4, s5, s6, s7, s8, s9, s10, s11, s12, s13, s14, s15⟩ := h
  exact ⟨⟨hP, hB, hC, hI, tr19_0 hO⟩, ⟨s1, s2, s3, s4, s5, rfl, s7, s8, s9, s10, s11, s12, s13, s14, s15⟩⟩
theorem ss0 {i : Nat → Int32} {a : Nat → Nat → Int32} {j : Nat → Int32} {c : Nat → Nat → Int32} (h : RR0 i a j c) (v : Int32) : RR0 (sI i v 10) a j (sA c (upd (c 18) (Int32.toNatClampNeg (0 : Int32)) v) 18) := by
  obtain ⟨⟨hP, hB, hC, hI, hO⟩, s1, s2, s3, s4, s5, s6, s7, s8, s9, s10, s11, s12, s13, s14, s15⟩ := h
  exact ⟨⟨hP, hB, hC, hI, tr18_0 hO⟩, ⟨s1, s2, s3, s4, rfl, s6, s7, s8, s9, s10, s11, s12, s13, s14, s15⟩⟩
theorem ho0 {i : Nat → Int32} {a : Nat → Nat → Int32} {j : Nat → Int32} {c : Nat → Nat → Int32} (h : SM0 i a j c) (k x y : Int32) (hx0 : 0 ≤ x.toInt) (hx1 : x.toInt ≤ 31) (hy0 : 0 ≤ y.toInt) (hy1 : y.toInt ≤ 31) : rU_branches_M i a k x y = rZ_holds0 j c k x y := by
  unfold rU_branches_M rZ_holds0
  rw [gt0 h x hx0 hx1, gt0 h y hy0 hy1]
theorem mv0 {i : Nat → Int32} {a : Nat → Nat → Int32} {j : Nat → Int32} {c : Nat → Nat → Int32} (h : RR0 i a j c) (k x y z : Int32) (hx0 : 0 ≤ x.toInt) (hx1 : x.toInt ≤ 31) (hy0 : 0 ≤ y.toInt) (hy1 : y.toInt ≤ 31) : rU_moves_M i a k x y z = rZ_moved0 j c k x y z ∧ RR0 i (aU_moves_M i a k x y z) j (aZ_moved0 j c k x y z) := by
  unfold rU_moves_M rZ_moved0 aU_moves_M aZ_moved0
  rw [gt0 h.2 y hy0 hy1, gt0 h.2 x hx0 hx1]
  generalize rZ_get0 j c y + z - (4096 : Int32) = p
  by_cases g1 : p < 0
  · simp only [if_pos g1]; exact ⟨trivial, h⟩
  · simp only [if_neg g1]
    have e1 := g1
    rw [lt_i, c0] at e1
    by_cases g2 : (64 : Int32) ≤ p
    · have g3 : (63 : Int32) < p := by rw [lt_i, c63]; rw [le_i, c64] at g2; omega
      simp only [if_pos g2, if_pos g3]; exact ⟨trivial, h⟩
    · have e2 := g2
      rw [le_i, c64] at e2
      have g3 : ¬ (63 : Int32) < p := by rw [lt_i, c63]; omega
      simp only [if_neg g2, if_neg g3]
      by_cases g4 : p - p / 4 * 4 = 0
      · simp only [if_pos g4]
        have ed := div4_i (x := p) (by omega)
        have d0 : 0 ≤ (p / 4).toInt := by omega
        have d1 : (p / 4).toInt ≤ 15 := by omega
        have dk := tn_of d0
        rw [zw0 d0 d1]
        by_cases g5 : k = 6
        · simp only [if_pos g5]
          refine ⟨trivial, ?_⟩
          rw [h.2.2.1 _ (by omega)]
          exact se0 h x _ hx0 hx1
        · simp only [if_neg g5]
          refine ⟨trivial, ?_⟩
          obtain ⟨⟨hP, hB, hC, hI, hO⟩, s1, s2, s3, s4, s5, s6, s7, s8, s9, s10, s11, s12, s13, s14, s15⟩ := h
          refine ⟨⟨hP, hB, hC, hI, tr15_0 hO (by omega)⟩, ⟨s1, fun r hr => ?_, s3, s4, s5, s6, s7, s8, s9, s10, s11, s12, s13, s14, s15⟩⟩
          show upd (a 16) (p / 4).toNatClampNeg _ r = upd (c 15) (p / 4).toNatClampNeg _ r
          by_cases hr0 : r = (p / 4).toNatClampNeg
          · subst hr0; rw [upd_at, upd_at]
          · rw [upd_ne _ _ hr0, upd_ne _ _ (by omega)]; exact s2 r hr
      · simp only [if_neg g4]; exact ⟨trivial, h⟩
/-- which numbers of a plain kind are registers -/
def CK0 (k x y z : Int32) : Prop := 0 ≤ x.toInt ∧ x.toInt ≤ 31 ∧ (¬ k = 5 → ¬ k = 13 → 0 ≤ y.toInt ∧ y.toInt ≤ 31) ∧ (k < 4 → 0 ≤ z.toInt ∧ z.toInt ≤ 31) ∧ (k = 0 ∨ k = 1 ∨ k = 2 ∨ k = 3 ∨ k = 4 ∨ k = 5 ∨ k = 13 ∨ k = 14)
theorem co0 {i : Nat → Int32} {a : Nat → Nat → Int32} {j : Nat → Int32} {c : Nat → Nat → Int32} (h : RR0 i a j c) (k x y z : Int32) (hc : CK0 k x y z) : RR0 i (aU_compute_M i a k x y z) j (aZ_reckon0 j c k x y z) := by
  obtain ⟨hx0, hx1, hy, hz, hk⟩ := hc
  rcases hk with e | e | e | e | e | e | e | e
  · subst e
    have hy := hy (by decide) (by decide)
    have hz := hz (by decide)
    show RR0 i (aU_set_M i a x (rU_get_M i a y + rU_get_M i a z)) j (aZ_set0 j c x (rZ_get0 j c y + rZ_get0 j c z))
    rw [gt0 h.2 y hy.1 hy.2, gt0 h.2 z hz.1 hz.2]
    exact se0 h x _ hx0 hx1
  · subst e
    have hy := hy (by decide) (by decide)
    have hz := hz (by decide)
    show RR0 i (aU_set_M i a x (rU_get_M i a y - rU_get_M i a z)) j (aZ_set0 j c x (rZ_get0 j c y - rZ_get0 j c z))
    rw [gt0 h.2 y hy.1 hy.2, gt0 h.2 z hz.1 hz.2]
    exact se0 h x _ hx0 hx1
  · subst e
    have hy := hy (by decide) (by decide)
    have hz := hz (by decide)
    show RR0 i (aU_set_M i a x (rU_get_M i a y &&& rU_get_M i a z)) j (aZ_set0 j c x (rZ_get0 j c y &&& rZ_get0 j c z))
    rw [gt0 h.2 y hy.1 hy.2, gt0 h.2 z hz.1 hz.2]
    exact se0 h x _ hx0 hx1
  · subst e
    have hy := hy (by decide) (by decide)
    have hz := hz (by decide)
    show RR0 i (aU_set_M i a x (rU_get_M i a y ||| rU_get_M i a z)) j (aZ_set0 j c x (rZ_get0 j c y ||| rZ_get0 j c z))
    rw [gt0 h.2 y hy.1 hy.2, gt0 h.2 z hz.1 hz.2]
    exact se0 h x _ hx0 hx1
  · subst e
    have hy := hy (by decide) (by decide)
    show RR0 i (aU_set_M i a x (rU_get_M i a y + z)) j (aZ_set0 j c x (rZ_get0 j c y + z))
    rw [gt0 h.2 y hy.1 hy.2]
    exact se0 h x _ hx0 hx1
  · subst e
    exact se0 h x _ hx0 hx1
  · subst e
    show RR0 i (aU_set_M i a x (rU_get_M i a x + y)) j (aZ_set0 j c x (rZ_get0 j c x + y))
    rw [gt0 h.2 x hx0 hx1]
    exact se0 h x _ hx0 hx1
  · subst e
    have hy := hy (by decide) (by decide)
    show RR0 i (aU_set_M i a x (rU_get_M i a y)) j (aZ_set0 j c x (rZ_get0 j c y))
    rw [gt0 h.2 y hy.1 hy.2]
    exact se0 h x _ hx0 hx1
theorem rd0 {i : Nat → Int32} {a : Nat → Nat → Int32} {j : Nat → Int32} {c : Nat → Nat → Int32} (h : RR0 i a j c) : RR0 (iU_readInput_M i a) (aU_readInput_M i a) (iZ_serve0 j c 0) (aZ_serve0 j c 0) := by
  have hI := h.1.2.2.2.1
  obtain ⟨-, s1, s2, s3, s4, s5, s6, s7, s8, s9, s10, s11, s12, s13, s14, s15⟩ := id h
  obtain ⟨k1, k2, k3, k4⟩ := id hI
  unfold iU_readInput_M aU_readInput_M iZ_serve0 aZ_serve0
  simp only [if_true, ite_self]
  have q5 : (j 5).toInt = (i 7).toInt := by rw [k1]
  by_cases hf : j 5 ≤ j 6
  · have e1 := hf
    rw [le_i] at e1
    rw [if_pos hf, if_pos hf]
    have hv : rI_valueAt i a (i 8) = -1 := by
      unfold rI_valueAt
      rw [if_neg (show ¬ i 8 < 0 by rw [lt_i, c0]; omega), if_pos (show i 7 ≤ i 8 by rw [le_i]; omega)]
    rw [hv]
    have hs := se0 h 10 (-1) (by decide) (by decide)
    by_cases hg : (20 : Int32) ≤ i 8
    · rw [if_pos hg]
      obtain ⟨⟨hP, hB, hC, hI, hO⟩, t1, t2, t3, t4, t5, t6, t7, t8, t9, t10, t11, t12, t13, t14, t15⟩ := hs
      exact ⟨⟨hP, hB, hC, hI, hO⟩, ⟨t1, t2, t3, t4, t5, t6, t7, t8, t9, t10, t11, t12, t13, t14, t15⟩⟩
    · rw [if_neg hg]
      rw [le_i, c20] at hg
      have e2 : (i 8 + 1).toInt = (i 8).toInt + 1 := add1 (N := 20) (by omega) (by omega) (by decide)
      obtain ⟨⟨hP, hB, hC, hI, hO⟩, t1, t2, t3, t4, t5, t6, t7, t8, t9, t10, t11, t12, t13, t14, t15⟩ := hs
      refine ⟨⟨hP, hB, hC, hI, hO⟩, ⟨t1, t2, t3, t4, t5, t6, t7, t8, t9, t10, t11, ?_, ?_, ?_, t15⟩⟩
      · show (j 6).toInt ≤ (i 8 + 1).toInt
        omega
      · show (i 8 + 1).toInt ≤ 20
        omega
      · intro hl
        have hl : (j 6).toInt < (j 5).toInt := hl
        omega
  · have e1 := hf
    rw [le_i] at e1
    rw [if_neg hf, if_neg hf]
    have ei := s14 (by omega)
    have hv : rI_valueAt i a (i 8) = c 13 (Int32.toNatClampNeg (j 6)) := by
      unfold rI_valueAt
      rw [ei, if_neg (show ¬ j 6 < 0 by rw [lt_i, c0]; omega), if_neg (show ¬ i 7 ≤ j 6 by rw [le_i]; omega), if_neg (show ¬ (20 : Int32) ≤ j 6 by rw [le_i, c20]; omega), k4]
    rw [hv, if_neg (show ¬ (20 : Int32) ≤ i 8 by rw [le_i, c20, ei]; omega)]
    have hs := se0 h 10 (c 13 (Int32.toNatClampNeg (j 6))) (by decide) (by decide)
    have e2 : (i 8 + 1).toInt = (i 8).toInt + 1 := add1 (N := 20) (by omega) (by omega) (by decide)
    have e3 : (j 6 + 1).toInt = (j 6).toInt + 1 := add1 (N := 20) (by omega) (by omega) (by decide)
    obtain ⟨⟨hP, hB, hC, hI, hO⟩, t1, t2, t3, t4, t5, t6, t7, t8, t9, t10, t11, t12, t13, t14, t15⟩ := hs
    have q6 : (i 8).toInt = (j 6).toInt := by rw [ei]
    refine ⟨⟨hP, hB, hC, hI, hO⟩, ⟨t1, t2, t3, t4, t5, t6, t7, t8, t9, ?_, ?_, ?_, ?_, ?_, t15⟩⟩
    · show 0 ≤ (j 6 + 1).toInt
      omega
    · show (j 6 + 1).toInt ≤ (j 5).toInt
      omega
    · show (j 6 + 1).toInt ≤ (i 8 + 1).toInt
      omega
    · show (i 8 + 1).toInt ≤ 20
      omega
    · intro _
      show i 8 + 1 = j 6 + 1
      rw [ei]
theorem wr0 {i : Nat → Int32} {a : Nat → Nat → Int32} {j : Nat → Int32} {c : Nat → Nat → Int32} (h : RR0 i a j c) (q : Int32) (hq : ¬ q = 0) : RR0 (iU_writeOutput_M i a) (aU_writeOutput_M i a) (iZ_serve0 j c q) (aZ_serve0 j c q) := by
  obtain ⟨⟨hP, hB, hC, hI, hO⟩, s1, s2, s3, s4, s5, s6, s7, s8, s9, s10, s11, s12, s13, s14, s15⟩ := id h
  unfold iU_writeOutput_M aU_writeOutput_M iZ_serve0 aZ_serve0
  simp only [if_neg hq, ite_self]
  rw [show (Int32.toNatClampNeg (0 : Int32)) = 0 from rfl, s4]
  have g0 : ¬ i 9 < 0 := by rw [lt_i, c0]; omega
  rw [if_neg g0, if_neg g0, gt0 h.2 10 (by decide) (by decide)]
  by_cases hf : (40 : Int32) ≤ i 9
  · rw [if_pos hf, if_pos hf, if_pos hf]
    exact h
  · rw [if_neg hf, if_neg hf, if_neg hf]
    rw [le_i, c40] at hf
    have hk := tn_of s7
    have e1 : (i 9 + 1).toInt = (i 9).toInt + 1 := add1 (N := 40) (by omega) (by omega) (by decide)
    rw [zo0 s7 (by omega)]
    refine ⟨⟨hP, hB, hC, hI, tr17_0 (tr16_0 hO (by omega))⟩, ⟨s1, s2, fun r hr => ?_, rfl, s5, s6, ?_, ?_, s9, s10, s11, s12, s13, s14, s15⟩⟩
    · show upd (a 17) (i 9).toNatClampNeg _ r = upd (c 16) (i 9).toNatClampNeg _ r
      by_cases hr0 : r = (i 9).toNatClampNeg
      · subst hr0; rw [upd_at, upd_at]
      · rw [upd_ne _ _ hr0, upd_ne _ _ (by omega)]; exact s3 r hr
    · show 0 ≤ (i 9 + 1).toInt
      omega
    · show (i 9 + 1).toInt ≤ 40
      omega
theorem tr14_1 {i : Nat → Int32} {a : Nat → Nat → Int32} {c : Nat → Nat → Int32} {k : Nat} {v : Int32} (h : IvM i a c) (hk : 32 ≤ k) : IvM i a (sA c (upd (c 14) k v) 14) := by
  obtain ⟨m1, m2, m3, m4, m5, m6, m7, m8, m9, m10⟩ := h
  refine ⟨fun r hr => ?_, m2, m3, m4, m5, m6, m7, m8, m9, m10⟩
  show a 15 r = upd (c 14) k v r
  rw [upd_ne _ _ (by omega)]
  exact m1 r hr
theorem tr15_1 {i : Nat → Int32} {a : Nat → Nat → Int32} {c : Nat → Nat → Int32} {k : Nat} {v : Int32} (h : IvM i a c) (hk : 16 ≤ k) : IvM i a (sA c (upd (c 15) k v) 15) := by
  obtain ⟨m1, m2, m3, m4, m5, m6, m7, m8, m9, m10⟩ := h
  refine ⟨m1, fun r hr => ?_, m3, m4, m5, m6, m7, m8, m9, m10⟩
  show a 16 r = upd (c 15) k v r
  rw [upd_ne _ _ (by omega)]
  exact m2 r hr
theorem tr16_1 {i : Nat → Int32} {a : Nat → Nat → Int32} {c : Nat → Nat → Int32} {k : Nat} {v : Int32} (h : IvM i a c) (hk : 40 ≤ k) : IvM i a (sA c (upd (c 16) k v) 16) := by
  obtain ⟨m1, m2, m3, m4, m5, m6, m7, m8, m9, m10⟩ := h
  refine ⟨m1, m2, fun r hr => ?_, m4, m5, m6, m7, m8, m9, m10⟩
  show a 17 r = upd (c 16) k v r
  rw [upd_ne _ _ (by omega)]
  exact m3 r hr
theorem tr17_1 {i : Nat → Int32} {a : Nat → Nat → Int32} {c : Nat → Nat → Int32} {v : Int32} (h : IvM i a c) : IvM i a (sA c (upd (c 17) 1 v) 17) := h
theorem tr18_1 {i : Nat → Int32} {a : Nat → Nat → Int32} {c : Nat → Nat → Int32} {v : Int32} (h : IvM i a c) : IvM i a (sA c (upd (c 18) 1 v) 18) := h
theorem tr19_1 {i : Nat → Int32} {a : Nat → Nat → Int32} {c : Nat → Nat → Int32} {v : Int32} (h : IvM i a c) : IvM i a (sA c (upd (c 19) 1 v) 19) := h
theorem tr20_1 {i : Nat → Int32} {a : Nat → Nat → Int32} {c : Nat → Nat → Int32} {v : Int32} (h : IvM i a c) : IvM i a (sA c (upd (c 20) 1 v) 20) := h
/-- in lockstep, while it runs -/
def SM1 (i : Nat → Int32) (a : Nat → Nat → Int32) (j : Nat → Int32) (c : Nat → Nat → Int32) : Prop :=
  (∀ r : Nat, r < 32 → a 18 r = c 14 (32 + r)) ∧ (∀ r : Nat, r < 16 → a 19 r = c 15 (16 + r)) ∧ (∀ r : Nat, r < 40 → a 20 r = c 16 (40 + r)) ∧ c 17 1 = i 13 ∧ c 18 1 = i 14 ∧ c 19 1 = i 15 ∧ 0 ≤ (i 13).toInt ∧ (i 13).toInt ≤ 40 ∧ a 18 0 = 0 ∧ 0 ≤ (j 6).toInt ∧ (j 6).toInt ≤ (j 5).toInt ∧ (j 6).toInt ≤ (i 12).toInt ∧ (i 12).toInt ≤ 20 ∧ ((j 6).toInt < (j 5).toInt → i 12 = j 6) ∧ c 20 1 = 1
def RS1 (i : Nat → Int32) (a : Nat → Nat → Int32) (j : Nat → Int32) (c : Nat → Nat → Int32) : Prop := IvP i a j c ∧ IvB i a j c ∧ IvC i a j c ∧ IvI i a j c ∧ IvM i a c
def RR1 (i : Nat → Int32) (a : Nat → Nat → Int32) (j : Nat → Int32) (c : Nat → Nat → Int32) : Prop := RS1 i a j c ∧ SM1 i a j c
theorem rr_inv1 {i : Nat → Int32} {a : Nat → Nat → Int32} {j : Nat → Int32} {c : Nat → Nat → Int32} (h : RR1 i a j c) : Inv i a j c := by
  obtain ⟨⟨hP, hB, hC, hI, hO⟩, s1, s2, s3, s4, s5, s6, s7, s8, s9, s10, s11, s12, s13, s14, s15⟩ := h
  exact ⟨hP, hB, hC, hI, hO, ⟨s1, s2, s3, s4, s5, s6, s7, s8, fun e => absurd (s15.symm.trans e) (by decide), s9⟩⟩
theorem zr1 {q : Int32} (h0 : 0 ≤ q.toInt) (h1 : q.toInt ≤ 31) : Int32.toNatClampNeg (((32 : Int32) * (1 : Int32)) + q) = (32 + q.toNatClampNeg) := by
  have hk := tn_of h0
  have := off_n (m := (32 : Int32) * (1 : Int32)) (M := 32) rfl hk.symm (by omega)
  omega
theorem zw1 {q : Int32} (h0 : 0 ≤ q.toInt) (h1 : q.toInt ≤ 15) : Int32.toNatClampNeg (((16 : Int32) * (1 : Int32)) + q) = (16 + q.toNatClampNeg) := by
  have hk := tn_of h0
  have := off_n (m := (16 : Int32) * (1 : Int32)) (M := 16) rfl hk.symm (by omega)
  omega
theorem zo1 {q : Int32} (h0 : 0 ≤ q.toInt) (h1 : q.toInt ≤ 39) : Int32.toNatClampNeg (((40 : Int32) * (1 : Int32)) + q) = (40 + q.toNatClampNeg) := by
  have hk := tn_of h0
  have := off_n (m := (40 : Int32) * (1 : Int32)) (M := 40) rfl hk.symm (by omega)
  omega
theorem gt1 {i : Nat → Int32} {a : Nat → Nat → Int32} {j : Nat → Int32} {c : Nat → Nat → Int32} (h : SM1 i a j c) (q : Int32) (h0 : 0 ≤ q.toInt) (h1 : q.toInt ≤ 31) : rU_get_T i a q = rZ_get1 j c q := by
  have hk := tn_of h0
  unfold rU_get_T rZ_get1
  rw [if_neg (show ¬ q < 0 by rw [lt_i, c0]; omega), if_neg (show ¬ (32 : Int32) ≤ q by rw [le_i, c32]; omega), zr1 h0 h1]
  exact h.1 _ (by omega)
theorem se1 {i : Nat → Int32} {a : Nat → Nat → Int32} {j : Nat → Int32} {c : Nat → Nat → Int32} (h : RR1 i a j c) (q v : Int32) (h0 : 0 ≤ q.toInt) (h1 : q.toInt ≤ 31) : RR1 i (aU_set_T i a q v) j (aZ_set1 j c q v) := by
  obtain ⟨⟨hP, hB, hC, hI, hO⟩, s1, s2, s3, s4, s5, s6, s7, s8, s9, s10, s11, s12, s13, s14, s15⟩ := h
  have hk := tn_of h0
  unfold aU_set_T aZ_set1
  rw [zr1 h0 h1]
  by_cases hq : q = 0
  · subst hq
    rw [if_pos (show (0 : Int32) ≤ 0 by decide), if_pos rfl]
    refine ⟨⟨hP, hB, hC, hI, tr14_1 hO (by omega)⟩, ⟨fun r hr => ?_, s2, s3, s4, s5, s6, s7, s8, s9, s10, s11, s12, s13, s14, s15⟩⟩
    show a 18 r = upd (c 14) (32 + (Int32.toNatClampNeg (0 : Int32))) 0 (32 + r)
    rw [n00]
    by_cases hr0 : r = 0
    · subst hr0; rw [upd_at, s9]
    · rw [upd_ne _ _ (by omega)]; exact s1 r hr
  · have hne : ¬ q.toInt = 0 := fun e => hq (Int32.toInt_inj.mp e)
    rw [if_neg (show ¬ q ≤ 0 by rw [le_i, c0]; omega), if_neg (show ¬ (32 : Int32) ≤ q by rw [le_i, c32]; omega), if_neg hq]
    refine ⟨⟨hP, hB, hC, hI, tr14_1 hO (by omega)⟩, ⟨fun r hr => ?_, s2, s3, s4, s5, s6, s7, s8, ?_, s10, s11, s12, s13, s14, s15⟩⟩
    · show upd (a 18) q.toNatClampNeg v r = upd (c 14) (32 + q.toNatClampNeg) v (32 + r)
      by_cases hr0 : r = q.toNatClampNeg
      · subst hr0; rw [upd_at, upd_at]
      · rw [upd_ne _ _ hr0, upd_ne _ _ (by omega)]; exact s1 r hr
    · show upd (a 18) q.toNatClampNeg v 0 = 0
      rw [upd_ne _ _ (by omega)]; exact s9
theorem pl1 {i : Nat → Int32} {a : Nat → Nat → Int32} {j : Nat → Int32} {c : Nat → Nat → Int32} (h : RR1 i a j c) (v : Int32) : RR1 (sI i v 15) a j (sA c (upd (c 19) (Int32.toNatClampNeg (1 : Int32)) v) 19) := by
  obtain ⟨⟨hP, hB, hC, hI, hO⟩, s1, s2, s3, s4, s5, s6, s7, s8, s9, s10, s11, s12, s13, s14, s15⟩ := h
  exact ⟨⟨hP, hB, hC, hI, tr19_1 hO⟩, ⟨s1, s2, s3, s4, s5, rfl, s7, s8, s9, s10, s11, s12, s13, s14, s15⟩⟩
theorem ss1 {i : Nat → Int32} {a : Nat → Nat → Int32} {j : Nat → Int32} {c : Nat → Nat → Int32} (h : RR1 i a j c) (v : Int32) : RR1 (sI i v 14) a j (sA c (upd (c 18) (Int32.toNatClampNeg (1 : Int32)) v) 18) := by
  obtain ⟨⟨hP, hB, hC, hI, hO⟩, s1, s2, s3, s4, s5, s6, s7, s8, s9, s10, s11, s12, s13, s14, s15⟩ := h
  exact ⟨⟨hP, hB, hC, hI, tr18_1 hO⟩, ⟨s1, s2, s3, s4, rfl, s6, s7, s8, s9, s10, s11, s12, s13, s14, s15⟩⟩
theorem ho1 {i : Nat → Int32} {a : Nat → Nat → Int32} {j : Nat → Int32} {c : Nat → Nat → Int32} (h : SM1 i a j c) (k x y : Int32) (hx0 : 0 ≤ x.toInt) (hx1 : x.toInt ≤ 31) (hy0 : 0 ≤ y.toInt) (hy1 : y.toInt ≤ 31) : rU_branches_T i a k x y = rZ_holds1 j c k x y := by
  unfold rU_branches_T rZ_holds1
  rw [gt1 h x hx0 hx1, gt1 h y hy0 hy1]
theorem mv1 {i : Nat → Int32} {a : Nat → Nat → Int32} {j : Nat → Int32} {c : Nat → Nat → Int32} (h : RR1 i a j c) (k x y z : Int32) (hx0 : 0 ≤ x.toInt) (hx1 : x.toInt ≤ 31) (hy0 : 0 ≤ y.toInt) (hy1 : y.toInt ≤ 31) : rU_moves_T i a k x y z = rZ_moved1 j c k x y z ∧ RR1 i (aU_moves_T i a k x y z) j (aZ_moved1 j c k x y z) := by
  unfold rU_moves_T rZ_moved1 aU_moves_T aZ_moved1
  rw [gt1 h.2 y hy0 hy1, gt1 h.2 x hx0 hx1]
  generalize rZ_get1 j c y + z - (4096 : Int32) = p
  by_cases g1 : p < 0
  · simp only [if_pos g1]; exact ⟨trivial, h⟩
  · simp only [if_neg g1]
    have e1 := g1
    rw [lt_i, c0] at e1
    by_cases g2 : (64 : Int32) ≤ p
    · have g3 : (63 : Int32) < p := by rw [lt_i, c63]; rw [le_i, c64] at g2; omega
      simp only [if_pos g2, if_pos g3]; exact ⟨trivial, h⟩
    · have e2 := g2
      rw [le_i, c64] at e2
      have g3 : ¬ (63 : Int32) < p := by rw [lt_i, c63]; omega
      simp only [if_neg g2, if_neg g3]
      by_cases g4 : p - p / 4 * 4 = 0
      · simp only [if_pos g4]
        have ed := div4_i (x := p) (by omega)
        have d0 : 0 ≤ (p / 4).toInt := by omega
        have d1 : (p / 4).toInt ≤ 15 := by omega
        have dk := tn_of d0
        rw [zw1 d0 d1]
        by_cases g5 : k = 6
        · simp only [if_pos g5]
          refine ⟨trivial, ?_⟩
          rw [h.2.2.1 _ (by omega)]
          exact se1 h x _ hx0 hx1
        · simp only [if_neg g5]
          refine ⟨trivial, ?_⟩
          obtain ⟨⟨hP, hB, hC, hI, hO⟩, s1, s2, s3, s4, s5, s6, s7, s8, s9, s10, s11, s12, s13, s14, s15⟩ := h
          refine ⟨⟨hP, hB, hC, hI, tr15_1 hO (by omega)⟩, ⟨s1, fun r hr => ?_, s3, s4, s5, s6, s7, s8, s9, s10, s11, s12, s13, s14, s15⟩⟩
          show upd (a 19) (p / 4).toNatClampNeg _ r = upd (c 15) (16 + (p / 4).toNatClampNeg) _ (16 + r)
          by_cases hr0 : r = (p / 4).toNatClampNeg
          · subst hr0; rw [upd_at, upd_at]
          · rw [upd_ne _ _ hr0, upd_ne _ _ (by omega)]; exact s2 r hr
      · simp only [if_neg g4]; exact ⟨trivial, h⟩
/-- which numbers of a plain kind are registers -/
def CK1 (k x y z : Int32) : Prop := 0 ≤ x.toInt ∧ x.toInt ≤ 31 ∧ (¬ k = 5 → ¬ k = 13 → 0 ≤ y.toInt ∧ y.toInt ≤ 31) ∧ (k < 4 → 0 ≤ z.toInt ∧ z.toInt ≤ 31) ∧ (k = 0 ∨ k = 1 ∨ k = 2 ∨ k = 3 ∨ k = 4 ∨ k = 5 ∨ k = 13 ∨ k = 14)
theorem co1 {i : Nat → Int32} {a : Nat → Nat → Int32} {j : Nat → Int32} {c : Nat → Nat → Int32} (h : RR1 i a j c) (k x y z : Int32) (hc : CK1 k x y z) : RR1 i (aU_compute_T i a k x y z) j (aZ_reckon1 j c k x y z) := by
  obtain ⟨hx0, hx1, hy, hz, hk⟩ := hc
  rcases hk with e | e | e | e | e | e | e | e
  · subst e
    have hy := hy (by decide) (by decide)
    have hz := hz (by decide)
    show RR1 i (aU_set_T i a x (rU_get_T i a y + rU_get_T i a z)) j (aZ_set1 j c x (rZ_get1 j c y + rZ_get1 j c z))
    rw [gt1 h.2 y hy.1 hy.2, gt1 h.2 z hz.1 hz.2]
    exact se1 h x _ hx0 hx1
  · subst e
    have hy := hy (by decide) (by decide)
    have hz := hz (by decide)
    show RR1 i (aU_set_T i a x (rU_get_T i a y - rU_get_T i a z)) j (aZ_set1 j c x (rZ_get1 j c y - rZ_get1 j c z))
    rw [gt1 h.2 y hy.1 hy.2, gt1 h.2 z hz.1 hz.2]
    exact se1 h x _ hx0 hx1
  · subst e
    have hy := hy (by decide) (by decide)
    have hz := hz (by decide)
    show RR1 i (aU_set_T i a x (rU_get_T i a y &&& rU_get_T i a z)) j (aZ_set1 j c x (rZ_get1 j c y &&& rZ_get1 j c z))
    rw [gt1 h.2 y hy.1 hy.2, gt1 h.2 z hz.1 hz.2]
    exact se1 h x _ hx0 hx1
  · subst e
    have hy := hy (by decide) (by decide)
    have hz := hz (by decide)
    show RR1 i (aU_set_T i a x (rU_get_T i a y ||| rU_get_T i a z)) j (aZ_set1 j c x (rZ_get1 j c y ||| rZ_get1 j c z))
    rw [gt1 h.2 y hy.1 hy.2, gt1 h.2 z hz.1 hz.2]
    exact se1 h x _ hx0 hx1
  · subst e
    have hy := hy (by decide) (by decide)
    show RR1 i (aU_set_T i a x (rU_get_T i a y + z)) j (aZ_set1 j c x (rZ_get1 j c y + z))
    rw [gt1 h.2 y hy.1 hy.2]
    exact se1 h x _ hx0 hx1
  · subst e
    exact se1 h x _ hx0 hx1
  · subst e
    show RR1 i (aU_set_T i a x (rU_get_T i a x + y)) j (aZ_set1 j c x (rZ_get1 j c x + y))
    rw [gt1 h.2 x hx0 hx1]
    exact se1 h x _ hx0 hx1
  · subst e
    have hy := hy (by decide) (by decide)
    show RR1 i (aU_set_T i a x (rU_get_T i a y)) j (aZ_set1 j c x (rZ_get1 j c y))
    rw [gt1 h.2 y hy.1 hy.2]
    exact se1 h x _ hx0 hx1
theorem rd1 {i : Nat → Int32} {a : Nat → Nat → Int32} {j : Nat → Int32} {c : Nat → Nat → Int32} (h : RR1 i a j c) : RR1 (iU_readInput_T i a) (aU_readInput_T i a) (iZ_serve1 j c 0) (aZ_serve1 j c 0) := by
  have hI := h.1.2.2.2.1
  obtain ⟨-, s1, s2, s3, s4, s5, s6, s7, s8, s9, s10, s11, s12, s13, s14, s15⟩ := id h
  obtain ⟨k1, k2, k3, k4⟩ := id hI
  unfold iU_readInput_T aU_readInput_T iZ_serve1 aZ_serve1
  simp only [if_true, ite_self]
  have q5 : (j 5).toInt = (i 7).toInt := by rw [k1]
  by_cases hf : j 5 ≤ j 6
  · have e1 := hf
    rw [le_i] at e1
    rw [if_pos hf, if_pos hf]
    have hv : rI_valueAt i a (i 12) = -1 := by
      unfold rI_valueAt
      rw [if_neg (show ¬ i 12 < 0 by rw [lt_i, c0]; omega), if_pos (show i 7 ≤ i 12 by rw [le_i]; omega)]
    rw [hv]
    have hs := se1 h 10 (-1) (by decide) (by decide)
    by_cases hg : (20 : Int32) ≤ i 12
    · rw [if_pos hg]
      obtain ⟨⟨hP, hB, hC, hI, hO⟩, t1, t2, t3, t4, t5, t6, t7, t8, t9, t10, t11, t12, t13, t14, t15⟩ := hs
      exact ⟨⟨hP, hB, hC, hI, hO⟩, ⟨t1, t2, t3, t4, t5, t6, t7, t8, t9, t10, t11, t12, t13, t14, t15⟩⟩
    · rw [if_neg hg]
      rw [le_i, c20] at hg
      have e2 : (i 12 + 1).toInt = (i 12).toInt + 1 := add1 (N := 20) (by omega) (by omega) (by decide)
      obtain ⟨⟨hP, hB, hC, hI, hO⟩, t1, t2, t3, t4, t5, t6, t7, t8, t9, t10, t11, t12, t13, t14, t15⟩ := hs
      refine ⟨⟨hP, hB, hC, hI, hO⟩, ⟨t1, t2, t3, t4, t5, t6, t7, t8, t9, t10, t11, ?_, ?_, ?_, t15⟩⟩
      · show (j 6).toInt ≤ (i 12 + 1).toInt
        omega
      · show (i 12 + 1).toInt ≤ 20
        omega
      · intro hl
        have hl : (j 6).toInt < (j 5).toInt := hl
        omega
  · have e1 := hf
    rw [le_i] at e1
    rw [if_neg hf, if_neg hf]
    have ei := s14 (by omega)
    have hv : rI_valueAt i a (i 12) = c 13 (Int32.toNatClampNeg (j 6)) := by
      unfold rI_valueAt
      rw [ei, if_neg (show ¬ j 6 < 0 by rw [lt_i, c0]; omega), if_neg (show ¬ i 7 ≤ j 6 by rw [le_i]; omega), if_neg (show ¬ (20 : Int32) ≤ j 6 by rw [le_i, c20]; omega), k4]
    rw [hv, if_neg (show ¬ (20 : Int32) ≤ i 12 by rw [le_i, c20, ei]; omega)]
    have hs := se1 h 10 (c 13 (Int32.toNatClampNeg (j 6))) (by decide) (by decide)
    have e2 : (i 12 + 1).toInt = (i 12).toInt + 1 := add1 (N := 20) (by omega) (by omega) (by decide)
    have e3 : (j 6 + 1).toInt = (j 6).toInt + 1 := add1 (N := 20) (by omega) (by omega) (by decide)
    obtain ⟨⟨hP, hB, hC, hI, hO⟩, t1, t2, t3, t4, t5, t6, t7, t8, t9, t10, t11, t12, t13, t14, t15⟩ := hs
    have q6 : (i 12).toInt = (j 6).toInt := by rw [ei]
    refine ⟨⟨hP, hB, hC, hI, hO⟩, ⟨t1, t2, t3, t4, t5, t6, t7, t8, t9, ?_, ?_, ?_, ?_, ?_, t15⟩⟩
    · show 0 ≤ (j 6 + 1).toInt
      omega
    · show (j 6 + 1).toInt ≤ (j 5).toInt
      omega
    · show (j 6 + 1).toInt ≤ (i 12 + 1).toInt
      omega
    · show (i 12 + 1).toInt ≤ 20
      omega
    · intro _
      show i 12 + 1 = j 6 + 1
      rw [ei]
theorem wr1 {i : Nat → Int32} {a : Nat → Nat → Int32} {j : Nat → Int32} {c : Nat → Nat → Int32} (h : RR1 i a j c) (q : Int32) (hq : ¬ q = 0) : RR1 (iU_writeOutput_T i a) (aU_writeOutput_T i a) (iZ_serve1 j c q) (aZ_serve1 j c q) := by
  obtain ⟨⟨hP, hB, hC, hI, hO⟩, s1, s2, s3, s4, s5, s6, s7, s8, s9, s10, s11, s12, s13, s14, s15⟩ := id h
  unfold iU_writeOutput_T aU_writeOutput_T iZ_serve1 aZ_serve1
  simp only [if_neg hq, ite_self]
  rw [show (Int32.toNatClampNeg (1 : Int32)) = 1 from rfl, s4]
  have g0 : ¬ i 13 < 0 := by rw [lt_i, c0]; omega
  rw [if_neg g0, if_neg g0, gt1 h.2 10 (by decide) (by decide)]
  by_cases hf : (40 : Int32) ≤ i 13
  · rw [if_pos hf, if_pos hf, if_pos hf]
    exact h
  · rw [if_neg hf, if_neg hf, if_neg hf]
    rw [le_i, c40] at hf
    have hk := tn_of s7
    have e1 : (i 13 + 1).toInt = (i 13).toInt + 1 := add1 (N := 40) (by omega) (by omega) (by decide)
    rw [zo1 s7 (by omega)]
    refine ⟨⟨hP, hB, hC, hI, tr17_1 (tr16_1 hO (by omega))⟩, ⟨s1, s2, fun r hr => ?_, rfl, s5, s6, ?_, ?_, s9, s10, s11, s12, s13, s14, s15⟩⟩
    · show upd (a 20) (i 13).toNatClampNeg _ r = upd (c 16) (40 + (i 13).toNatClampNeg) _ (40 + r)
      by_cases hr0 : r = (i 13).toNatClampNeg
      · subst hr0; rw [upd_at, upd_at]
      · rw [upd_ne _ _ hr0, upd_ne _ _ (by omega)]; exact s3 r hr
    · show 0 ≤ (i 13 + 1).toInt
      omega
    · show (i 13 + 1).toInt ≤ 40
      omega

/-! fetch and a step of the machine: class and reference alike -/
theorem or_low (h x y : Int32) : ((h ||| (x <<< ((16 : Int32) &&& 31))) ||| (y <<< ((24 : Int32) &&& 31))) &&& 3 = h &&& 3 := by
  refine b_ext fun i hi => ?_
  rw [b_and, b_and, b_or, b_or, b_shl16 _ hi, b_shl24 _ hi]
  by_cases h2 : i < 16
  · rw [decide_eq_false (show ¬ 16 ≤ i by omega), decide_eq_false (show ¬ 24 ≤ i by omega)]; simp
  · have : bt 3 i = false := (by decide +kernel : ∀ i, i < 32 → ¬ i < 16 → bt 3 i = false) i hi h2
    rw [this]; simp
theorem by_r (x : Int32) : (rZ_bytesOf x).toInt = 2 ∨ (rZ_bytesOf x).toInt = 4 := by
  unfold rZ_bytesOf
  by_cases h : rZ_isLong x = 0
  · rw [if_pos h]; exact Or.inl rfl
  · rw [if_neg h]; exact Or.inr rfl
theorem addc {x y : Int32} {N : Int} (hy : y.toInt = N) (h0 : -1000000 ≤ x.toInt + N) (h1 : x.toInt + N ≤ 1000000) : (x + y).toInt = x.toInt + N := by
  rw [add_i (by omega) (by omega), hy]
theorem c2 : (2 : Int32).toInt = 2 := rfl
theorem c3 : (3 : Int32).toInt = 3 := rfl
theorem c4 : (4 : Int32).toInt = 4 := rfl
theorem c48 : (48 : Int32).toInt = 48 := rfl
theorem byte_a {i : Nat → Int32} {a : Nat → Nat → Int32} {j : Nat → Int32} {c : Nat → Nat → Int32} (hC : IvC i a j c) {q : Int32} (q0 : 0 ≤ q.toInt) (q1 : q.toInt < (i 5).toInt) : a 12 q.toNatClampNeg = rZ_byteAt j c q := by
  obtain ⟨k1, k2, k3, k4, k5⟩ := hC
  unfold rZ_byteAt
  rw [← k1, if_neg (by rw [le_i]; omega)]
  exact (k4 _ (by rw [tn_of q0]; exact q1)).1
theorem fetch_of {i : Nat → Int32} {a : Nat → Nat → Int32} {j : Nat → Int32} {c : Nat → Nat → Int32} (hC : IvC i a j c) {p : Int32} (h0 : 0 ≤ p.toInt) (h1 : p.toInt < (i 5).toInt) : rC_fetch i a p = if p.toInt + (rZ_bytesOf (rZ_bitsAt j c p)).toInt ≤ (i 5).toInt then rZ_bitsAt j c p else 0 := by
  have k3 := hC.2.2.1
  have e1 : (p + 1).toInt = p.toInt + 1 := addc c1 (by omega) (by omega)
  have e2 : (p + 2).toInt = p.toInt + 2 := addc c2 (by omega) (by omega)
  have e3 : (p + 3).toInt = p.toInt + 3 := addc c3 (by omega) (by omega)
  have g0 : rC_has i a p = 1 := by rw [has_c a k3, if_pos ⟨h0, h1⟩]
  have f0 := byte_a hC h0 h1
  by_cases h2 : p.toInt + 1 < (i 5).toInt
  · have g1 : rC_has i a (p + 1) = 1 := by rw [has_c a k3, e1, if_pos (by omega)]
    have f1 := byte_a hC (q := p + 1) (by omega) (by omega)
    by_cases hl : rZ_isLong (rZ_byteAt j c p ||| (rZ_byteAt j c (p + 1) <<< ((8 : Int32) &&& 31))) = 0
    · have hw : rZ_bitsAt j c p = rZ_byteAt j c p ||| (rZ_byteAt j c (p + 1) <<< ((8 : Int32) &&& 31)) := by unfold rZ_bitsAt; rw [if_pos hl]
      have hn : rZ_bytesOf (rZ_bitsAt j c p) = 2 := by rw [hw]; unfold rZ_bytesOf; rw [if_pos hl]
      rw [hn, c2, if_pos (by omega), hw]
      unfold rC_fetch
      rw [g0, g1, if_neg (by decide), if_neg (by decide), f0, f1, long_eq, if_pos hl]
    · have hw : rZ_bitsAt j c p = (((rZ_byteAt j c p ||| (rZ_byteAt j c (p + 1) <<< ((8 : Int32) &&& 31))) ||| (rZ_byteAt j c (p + 2) <<< ((16 : Int32) &&& 31))) ||| (rZ_byteAt j c (p + 3) <<< ((24 : Int32) &&& 31))) := by unfold rZ_bitsAt; rw [if_neg hl]
      have hn : rZ_bytesOf (rZ_bitsAt j c p) = 4 := by
        rw [hw]
        unfold rZ_bytesOf
        rw [if_neg]
        unfold rZ_isLong
        rw [or_low]
        exact hl
      rw [hn, c4]
      unfold rC_fetch
      rw [g0, g1, if_neg (by decide), if_neg (by decide), f0, f1, long_eq, if_neg hl, has_c a k3, has_c a k3, e2, e3]
      by_cases h4 : p.toInt + 4 ≤ (i 5).toInt
      · rw [if_pos (show 0 ≤ p.toInt + 2 ∧ p.toInt + 2 < (i 5).toInt by omega), if_pos (show 0 ≤ p.toInt + 3 ∧ p.toInt + 3 < (i 5).toInt by omega), if_neg (by decide), if_neg (by decide), if_pos h4, byte_a hC (q := p + 2) (by omega) (by omega), byte_a hC (q := p + 3) (by omega) (by omega), hw]
      · rw [if_neg (show ¬ (0 ≤ p.toInt + 3 ∧ p.toInt + 3 < (i 5).toInt) by omega), if_neg h4, if_pos (show (0 : Int32) = 0 from rfl), ite_self]
  · have hr := by_r (rZ_bitsAt j c p)
    rw [if_neg (by omega)]
    unfold rC_fetch
    rw [g0, has_c a k3, e1, if_neg (show ¬ (0 ≤ p.toInt + 1 ∧ p.toInt + 1 < (i 5).toInt) by omega), if_neg (by decide), if_pos rfl]
theorem k_cases {k : Int32} (h0 : 0 ≤ k) (h1 : k ≤ 14) : k = 0 ∨ k = 1 ∨ k = 2 ∨ k = 3 ∨ k = 4 ∨ k = 5 ∨ k = 6 ∨ k = 7 ∨ k = 8 ∨ k = 9 ∨ k = 10 ∨ k = 11 ∨ k = 12 ∨ k = 13 ∨ k = 14 := by
  rw [le_i] at h0 h1
  have e0 : (0 : Int32).toInt = 0 := rfl
  have e1 : (14 : Int32).toInt = 14 := rfl
  have : k.toInt = 0 ∨ k.toInt = 1 ∨ k.toInt = 2 ∨ k.toInt = 3 ∨ k.toInt = 4 ∨ k.toInt = 5 ∨ k.toInt = 6 ∨ k.toInt = 7 ∨ k.toInt = 8 ∨ k.toInt = 9 ∨ k.toInt = 10 ∨ k.toInt = 11 ∨ k.toInt = 12 ∨ k.toInt = 13 ∨ k.toInt = 14 := by omega
  simp only [← Int32.toInt_inj]
  exact this
theorem inr_le {x : Int32} (h : inR x) : 0 ≤ x.toInt ∧ x.toInt ≤ 31 := ⟨h.1, by have := h.2; omega⟩
theorem ck_of {k : Int32} (w : Int32) (hk : k = 0 ∨ k = 1 ∨ k = 2 ∨ k = 3 ∨ k = 4 ∨ k = 5 ∨ k = 13 ∨ k = 14) : CK0 k (rZ_fieldA k w) (rZ_fieldB k w) (rZ_fieldC k w) :=
  ⟨(inr_le (rA k w)).1, (inr_le (rA k w)).2, fun h5 h13 => inr_le (rB h5 (fun e => by subst e; revert hk; decide) h13), fun h4 => inr_le (rC h4), hk⟩
set_option maxRecDepth 100000 in
theorem step_M {i : Nat → Int32} {a : Nat → Nat → Int32} {j : Nat → Int32} {c : Nat → Nat → Int32} (h : RR0 i a j c) : rM_step i a = rZ_step j c ∧ RR0 (iM_step i a) (aM_step i a) (iZ_step j c) (aZ_step j c) := by
  have hp : c 19 (Int32.toNatClampNeg (0 : Int32)) = i 11 := h.2.2.2.2.2.2.1
  have hC : IvC i a j c := h.1.2.2.1
  have k1 := hC.1
  have k3 := hC.2.2.1
  unfold rM_step iM_step aM_step rZ_step iZ_step aZ_step
  simp only [hp, ← k1]
  generalize i 11 = p
  by_cases g0 : p = 0
  · simp only [if_pos g0]
    subst g0
    have hs := rd0 h
    unfold iM_comeBack
    rw [show (0 : Int32) / 16 = 0 by decide, gt0 hs.2 1 (by decide) (by decide)]
    exact ⟨trivial, pl0 hs _⟩
  · by_cases g1 : p = 16
    · simp only [if_neg g0, if_pos g1]
      subst g1
      have hs := wr0 h 1 (by decide)
      unfold iM_comeBack
      rw [show (16 : Int32) / 16 = 1 by decide, gt0 hs.2 1 (by decide) (by decide)]
      exact ⟨trivial, pl0 hs _⟩
    · by_cases g2 : p = 32
      · simp only [if_neg g0, if_neg g1, if_pos g2]
        exact ⟨trivial, h⟩
      · simp only [if_neg g0, if_neg g1, if_neg g2]
        unfold rM_stepInCode iM_stepInCode aM_stepInCode
        by_cases g3 : p < 48
        · simp only [if_pos g3]
          exact ⟨trivial, h⟩
        · by_cases g4 : i 5 ≤ p
          · simp only [if_neg g3, if_pos g4]
            exact ⟨trivial, h⟩
          · by_cases g5 : p - p / 2 * 2 = 0
            · simp only [if_neg g3, if_neg g4, if_pos g5]
              rw [lt_i, c48] at g3
              rw [le_i] at g4
              have hf := fetch_of hC (p := p) (by omega) (by omega)
              have hr := by_r (rZ_bitsAt j c p)
              have he : (p + rZ_bytesOf (rZ_bitsAt j c p)).toInt = p.toInt + (rZ_bytesOf (rZ_bitsAt j c p)).toInt := addc rfl (by omega) (by omega)
              by_cases hfit : p.toInt + (rZ_bytesOf (rZ_bitsAt j c p)).toInt ≤ (i 5).toInt
              · rw [if_pos hfit] at hf
                have g6 : ¬ i 5 < p + rZ_bytesOf (rZ_bitsAt j c p) := by rw [lt_i]; omega
                simp only [hf, if_neg g6, size_eq]
                clear hr he hfit g6
                generalize rZ_bitsAt j c p = w
                have hk := kind_rng w
                have hkz := kind_eq j c w
                simp only [← hkz]
                clear hkz
                generalize rF_kindOf w = k at hk
                rcases hk with e | ⟨e0, e1⟩
                · subst e
                  simp (config := { decide := true }) only [if_true, if_false]
                  exact ⟨trivial, h⟩
                · simp only [first_eq e0 e1, second_eq e0 e1, third_eq e0 e1]
                  have hA := inr_le (rA k w)
                  rcases k_cases e0 e1 with e | e | e | e | e | e | e | e | e | e | e | e | e | e | e <;> subst e <;> simp (config := { decide := true }) only [if_true, if_false, true_and]
                  · exact pl0 (co0 h 0 _ _ _ (ck_of w (by decide))) _
                  · exact pl0 (co0 h 1 _ _ _ (ck_of w (by decide))) _
                  · exact pl0 (co0 h 2 _ _ _ (ck_of w (by decide))) _
                  · exact pl0 (co0 h 3 _ _ _ (ck_of w (by decide))) _
                  · exact pl0 (co0 h 4 _ _ _ (ck_of w (by decide))) _
                  · exact pl0 (co0 h 5 _ _ _ (ck_of w (by decide))) _
                  · have hB := inr_le (rB (k := 6) (w := w) (by decide) (by decide) (by decide))
                    obtain ⟨m1, m2⟩ := mv0 h 6 _ _ (rZ_fieldC 6 w) hA.1 hA.2 hB.1 hB.2
                    rw [m1]
                    by_cases hm : rZ_moved0 j c 6 (rZ_fieldA 6 w) (rZ_fieldB 6 w) (rZ_fieldC 6 w) = 0
                    · simp only [if_pos hm]; exact ⟨trivial, m2⟩
                    · simp only [if_neg hm]; exact ⟨trivial, pl0 m2 _⟩
                  · have hB := inr_le (rB (k := 7) (w := w) (by decide) (by decide) (by decide))
                    obtain ⟨m1, m2⟩ := mv0 h 7 _ _ (rZ_fieldC 7 w) hA.1 hA.2 hB.1 hB.2
                    rw [m1]
                    by_cases hm : rZ_moved0 j c 7 (rZ_fieldA 7 w) (rZ_fieldB 7 w) (rZ_fieldC 7 w) = 0
                    · simp only [if_pos hm]; exact ⟨trivial, m2⟩
                    · simp only [if_neg hm]; exact ⟨trivial, pl0 m2 _⟩
                  · have hB := inr_le (rB (k := 8) (w := w) (by decide) (by decide) (by decide))
                    rw [ho0 h.2 8 _ _ hA.1 hA.2 hB.1 hB.2]
                    by_cases hm : rZ_holds0 j c 8 (rZ_fieldA 8 w) (rZ_fieldB 8 w) = 0
                    · simp only [if_pos hm]; exact ⟨trivial, pl0 h _⟩
                    · simp only [if_neg hm]; exact ⟨trivial, pl0 h _⟩
                  · have hB := inr_le (rB (k := 9) (w := w) (by decide) (by decide) (by decide))
                    rw [ho0 h.2 9 _ _ hA.1 hA.2 hB.1 hB.2]
                    by_cases hm : rZ_holds0 j c 9 (rZ_fieldA 9 w) (rZ_fieldB 9 w) = 0
                    · simp only [if_pos hm]; exact ⟨trivial, pl0 h _⟩
                    · simp only [if_neg hm]; exact ⟨trivial, pl0 h _⟩
                  · have hB := inr_le (rB (k := 10) (w := w) (by decide) (by decide) (by decide))
                    rw [ho0 h.2 10 _ _ hA.1 hA.2 hB.1 hB.2]
                    by_cases hm : rZ_holds0 j c 10 (rZ_fieldA 10 w) (rZ_fieldB 10 w) = 0
                    · simp only [if_pos hm]; exact ⟨trivial, pl0 h _⟩
                    · simp only [if_neg hm]; exact ⟨trivial, pl0 h _⟩
                  · exact pl0 (se0 h _ _ hA.1 hA.2) _
                  · have hB := inr_le (rB (k := 12) (w := w) (by decide) (by decide) (by decide))
                    rw [gt0 h.2 _ hB.1 hB.2]
                    exact pl0 (se0 h _ _ hA.1 hA.2) _
                  · exact pl0 (co0 h 13 _ _ _ (ck_of w (by decide))) _
                  · exact pl0 (co0 h 14 _ _ _ (ck_of w (by decide))) _
              · rw [if_neg hfit] at hf
                have g6 : i 5 < p + rZ_bytesOf (rZ_bitsAt j c p) := by rw [lt_i]; omega
                have hk0 : rF_kindOf 0 = -1 := by decide +kernel
                simp only [hf, if_pos g6, hk0, if_true]
                exact ⟨trivial, h⟩
            · simp only [if_neg g3, if_neg g4, if_neg g5]
              exact ⟨trivial, h⟩

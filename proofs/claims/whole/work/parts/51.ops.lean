/-! state, output, register, word: class and reference alike -/
theorem out01 {p : Int32} (h0 : ¬ p = 0) (h1 : ¬ p = 1) : ¬ rZ_outside p 0 1 = 0 := by
  rw [ot_eq, if_neg]
  · decide
  · rw [le_i, le_i, c0, c1]
    intro h
    rcases (by omega : p.toInt = 0 ∨ p.toInt = 1) with q | q
    · exact h0 (Int32.toInt_inj.mp q)
    · exact h1 (Int32.toInt_inj.mp q)
theorem w012 {q : Int32} (h : 0 ≤ q ∧ q ≤ 2) : q = 0 ∨ q = 1 ∨ q = 2 := by
  rw [le_i, le_i, c0, show (2 : Int32).toInt = 2 from rfl] at h
  rcases (by omega : q.toInt = 0 ∨ q.toInt = 1 ∨ q.toInt = 2) with e | e | e
  · exact Or.inl (Int32.toInt_inj.mp e)
  · exact Or.inr (Or.inl (Int32.toInt_inj.mp e))
  · exact Or.inr (Or.inr (Int32.toInt_inj.mp e))
theorem off_n {m q : Int32} {M Q : Nat} (hm : m.toInt = M) (hq : q.toInt = Q) (h : M + Q < 1000) : (m + q).toNatClampNeg = M + Q := by
  have e := add_i (x := m) (y := q) (by omega) (by omega)
  have := tn_of (x := m + q) (by omega)
  omega
theorem st_0 {i : Nat → Int32} {a : Nat → Nat → Int32} {c : Nat → Nat → Int32} (h : IvM i a c) (j : Nat → Int32) (q : Int32) : rX_state_0 i a q = rZ_state_0 j c q := by
  obtain ⟨m1, m2, m3, m4, m5, m6, m7, m8, m9, m10⟩ := h
  unfold rX_state_0 rZ_state_0
  rw [ot_eq, show (Int32.toNatClampNeg (0 : Int32)) = 0 from rfl, m4, m5, m6]
  by_cases hq : 0 ≤ q ∧ q ≤ 2
  · rw [if_pos hq, if_pos rfl]
    by_cases hr : c 20 0 = 0
    · rw [if_pos hr, (m9 hr).1, (m9 hr).2.1, (m9 hr).2.2]
      rcases w012 hq with e | e | e <;> subst e <;> rfl
    · rw [if_neg hr]
      rcases w012 hq with e | e | e <;> subst e <;> rfl
  · have h0 : ¬ q = 0 := fun e => hq (by rw [e]; decide)
    have h1 : ¬ q = 1 := fun e => hq (by rw [e]; decide)
    have h2 : ¬ q = 2 := fun e => hq (by rw [e]; decide)
    rw [if_neg hq, if_neg (show ¬ (1 : Int32) = 0 by decide), if_neg h0, if_neg h1, if_neg h2]
theorem ou_0 {i : Nat → Int32} {a : Nat → Nat → Int32} {c : Nat → Nat → Int32} (h : IvM i a c) (j : Nat → Int32) (q : Int32) : rX_output_0 i a q = rZ_output_0 j c q ∧ (¬ q < 0 → q < c 17 (Int32.toNatClampNeg (0 : Int32)) → vp_in (((40 : Int32) * (0 : Int32)) + q) 80) := by
  obtain ⟨m1, m2, m3, m4, m5, m6, m7, m8, m9, m10⟩ := h
  unfold rX_output_0 rZ_output_0 rU_outputAt_M
  rw [show (Int32.toNatClampNeg (0 : Int32)) = 0 from rfl, m4]
  by_cases h1 : q < 0
  · rw [if_pos h1, if_pos h1]; exact ⟨rfl, fun h => absurd h1 h⟩
  · rw [if_neg h1, if_neg h1]
    rw [lt_i, c0] at h1
    by_cases h2 : q < i 9
    · rw [if_pos h2]
      rw [lt_i] at h2
      have ho := off_n (m := (40 : Int32) * (0 : Int32)) (M := 0) rfl (tn_of (x := q) (by omega)).symm (by have := tn_of (x := q) (by omega); omega)
      have hk := tn_of (x := q) (by omega)
      rw [if_neg (show ¬ i 9 ≤ q by rw [le_i]; omega), if_neg (show ¬ (40 : Int32) ≤ q by rw [le_i, show (40 : Int32).toInt = 40 from rfl]; omega), ho]
      refine ⟨?_, fun _ _ => in_off (by decide) (by omega) (by rw [show ((40 : Int32) * (0 : Int32)).toInt = 0 from rfl]; omega) (by decide)⟩
      rw [m3 _ (by omega)]
      try (first | rfl | (congr 1 <;> omega))
    · rw [if_neg h2]
      refine ⟨?_, fun _ h => absurd h h2⟩
      rw [lt_i] at h2
      rw [if_pos (show i 9 ≤ q by rw [le_i]; omega)]
theorem re_0 {i : Nat → Int32} {a : Nat → Nat → Int32} {c : Nat → Nat → Int32} (h : IvM i a c) (j : Nat → Int32) (q : Int32) : rX_register_0 i a q = rZ_register_0 j c q := by
  obtain ⟨m1, m2, m3, m4, m5, m6, m7, m8, m9, m10⟩ := h
  unfold rX_register_0 rZ_register_0 rU_get_M
  rw [nr_eq]
  by_cases h1 : 0 ≤ q ∧ q ≤ 31
  · rw [if_pos h1, if_pos rfl]
    rw [le_i, le_i, c0, show (31 : Int32).toInt = 31 from rfl] at h1
    have hk := tn_of (x := q) (by omega)
    have ho := off_n (m := (32 : Int32) * (0 : Int32)) (M := 0) rfl hk.symm (by omega)
    rw [if_neg (show ¬ q < 0 by rw [lt_i, c0]; omega), if_neg (show ¬ (32 : Int32) ≤ q by rw [le_i, show (32 : Int32).toInt = 32 from rfl]; omega), ho, m1 _ (by omega)]
    try (first | rfl | (congr 1 <;> omega))
  · rw [if_neg h1, if_neg (show ¬ (1 : Int32) = 0 by decide)]
    rw [le_i, le_i, c0, show (31 : Int32).toInt = 31 from rfl] at h1
    by_cases h2 : q < 0
    · rw [if_pos h2]
    · rw [if_neg h2]
      rw [lt_i, c0] at h2
      rw [if_pos (show (32 : Int32) ≤ q by rw [le_i, show (32 : Int32).toInt = 32 from rfl]; omega)]
theorem wo_0 {i : Nat → Int32} {a : Nat → Nat → Int32} {c : Nat → Nat → Int32} (h : IvM i a c) (j : Nat → Int32) (q : Int32) : rX_word_0 i a q = rZ_word_0 j c q := by
  obtain ⟨m1, m2, m3, m4, m5, m6, m7, m8, m9, m10⟩ := h
  unfold rX_word_0 rZ_word_0 rU_wordAt_M
  rw [ot_eq]
  by_cases h1 : 0 ≤ q ∧ q ≤ 15
  · rw [if_pos h1, if_pos rfl]
    rw [le_i, le_i, c0, show (15 : Int32).toInt = 15 from rfl] at h1
    have hk := tn_of (x := q) (by omega)
    have ho := off_n (m := (16 : Int32) * (0 : Int32)) (M := 0) rfl hk.symm (by omega)
    rw [if_neg (show ¬ q < 0 by rw [lt_i, c0]; omega), if_neg (show ¬ (16 : Int32) ≤ q by rw [le_i, show (16 : Int32).toInt = 16 from rfl]; omega), ho, m2 _ (by omega)]
    try (first | rfl | (congr 1 <;> omega))
  · rw [if_neg h1, if_neg (show ¬ (1 : Int32) = 0 by decide)]
    rw [le_i, le_i, c0, show (15 : Int32).toInt = 15 from rfl] at h1
    by_cases h2 : q < 0
    · rw [if_pos h2]
    · rw [if_neg h2]
      rw [lt_i, c0] at h2
      rw [if_pos (show (16 : Int32) ≤ q by rw [le_i, show (16 : Int32).toInt = 16 from rfl]; omega)]
theorem st_1 {i : Nat → Int32} {a : Nat → Nat → Int32} {c : Nat → Nat → Int32} (h : IvT i a c) (j : Nat → Int32) (q : Int32) : rX_state_1 i a q = rZ_state_1 j c q := by
  obtain ⟨m1, m2, m3, m4, m5, m6, m7, m8, m9, m10⟩ := h
  unfold rX_state_1 rZ_state_1
  rw [ot_eq, show (Int32.toNatClampNeg (1 : Int32)) = 1 from rfl, m4, m5, m6]
  by_cases hq : 0 ≤ q ∧ q ≤ 2
  · rw [if_pos hq, if_pos rfl]
    by_cases hr : c 20 1 = 0
    · rw [if_pos hr, (m9 hr).1, (m9 hr).2.1, (m9 hr).2.2]
      rcases w012 hq with e | e | e <;> subst e <;> rfl
    · rw [if_neg hr]
      rcases w012 hq with e | e | e <;> subst e <;> rfl
  · have h0 : ¬ q = 0 := fun e => hq (by rw [e]; decide)
    have h1 : ¬ q = 1 := fun e => hq (by rw [e]; decide)
    have h2 : ¬ q = 2 := fun e => hq (by rw [e]; decide)
    rw [if_neg hq, if_neg (show ¬ (1 : Int32) = 0 by decide), if_neg h0, if_neg h1, if_neg h2]
theorem ou_1 {i : Nat → Int32} {a : Nat → Nat → Int32} {c : Nat → Nat → Int32} (h : IvT i a c) (j : Nat → Int32) (q : Int32) : rX_output_1 i a q = rZ_output_1 j c q ∧ (¬ q < 0 → q < c 17 (Int32.toNatClampNeg (1 : Int32)) → vp_in (((40 : Int32) * (1 : Int32)) + q) 80) := by
  obtain ⟨m1, m2, m3, m4, m5, m6, m7, m8, m9, m10⟩ := h
  unfold rX_output_1 rZ_output_1 rU_outputAt_T
  rw [show (Int32.toNatClampNeg (1 : Int32)) = 1 from rfl, m4]
  by_cases h1 : q < 0
  · rw [if_pos h1, if_pos h1]; exact ⟨rfl, fun h => absurd h1 h⟩
  · rw [if_neg h1, if_neg h1]
    rw [lt_i, c0] at h1
    by_cases h2 : q < i 13
    · rw [if_pos h2]
      rw [lt_i] at h2
      have ho := off_n (m := (40 : Int32) * (1 : Int32)) (M := 40) rfl (tn_of (x := q) (by omega)).symm (by have := tn_of (x := q) (by omega); omega)
      have hk := tn_of (x := q) (by omega)
      rw [if_neg (show ¬ i 13 ≤ q by rw [le_i]; omega), if_neg (show ¬ (40 : Int32) ≤ q by rw [le_i, show (40 : Int32).toInt = 40 from rfl]; omega), ho]
      refine ⟨?_, fun _ _ => in_off (by decide) (by omega) (by rw [show ((40 : Int32) * (1 : Int32)).toInt = 40 from rfl]; omega) (by decide)⟩
      rw [m3 _ (by omega)]
      try (first | rfl | (congr 1 <;> omega))
    · rw [if_neg h2]
      refine ⟨?_, fun _ h => absurd h h2⟩
      rw [lt_i] at h2
      rw [if_pos (show i 13 ≤ q by rw [le_i]; omega)]
theorem re_1 {i : Nat → Int32} {a : Nat → Nat → Int32} {c : Nat → Nat → Int32} (h : IvT i a c) (j : Nat → Int32) (q : Int32) : rX_register_1 i a q = rZ_register_1 j c q := by
  obtain ⟨m1, m2, m3, m4, m5, m6, m7, m8, m9, m10⟩ := h
  unfold rX_register_1 rZ_register_1 rU_get_T
  rw [nr_eq]
  by_cases h1 : 0 ≤ q ∧ q ≤ 31
  · rw [if_pos h1, if_pos rfl]
    rw [le_i, le_i, c0, show (31 : Int32).toInt = 31 from rfl] at h1
    have hk := tn_of (x := q) (by omega)
    have ho := off_n (m := (32 : Int32) * (1 : Int32)) (M := 32) rfl hk.symm (by omega)
    rw [if_neg (show ¬ q < 0 by rw [lt_i, c0]; omega), if_neg (show ¬ (32 : Int32) ≤ q by rw [le_i, show (32 : Int32).toInt = 32 from rfl]; omega), ho, m1 _ (by omega)]
    try (first | rfl | (congr 1 <;> omega))
  · rw [if_neg h1, if_neg (show ¬ (1 : Int32) = 0 by decide)]
    rw [le_i, le_i, c0, show (31 : Int32).toInt = 31 from rfl] at h1
    by_cases h2 : q < 0
    · rw [if_pos h2]
    · rw [if_neg h2]
      rw [lt_i, c0] at h2
      rw [if_pos (show (32 : Int32) ≤ q by rw [le_i, show (32 : Int32).toInt = 32 from rfl]; omega)]
theorem wo_1 {i : Nat → Int32} {a : Nat → Nat → Int32} {c : Nat → Nat → Int32} (h : IvT i a c) (j : Nat → Int32) (q : Int32) : rX_word_1 i a q = rZ_word_1 j c q := by
  obtain ⟨m1, m2, m3, m4, m5, m6, m7, m8, m9, m10⟩ := h
  unfold rX_word_1 rZ_word_1 rU_wordAt_T
  rw [ot_eq]
  by_cases h1 : 0 ≤ q ∧ q ≤ 15
  · rw [if_pos h1, if_pos rfl]
    rw [le_i, le_i, c0, show (15 : Int32).toInt = 15 from rfl] at h1
    have hk := tn_of (x := q) (by omega)
    have ho := off_n (m := (16 : Int32) * (1 : Int32)) (M := 16) rfl hk.symm (by omega)
    rw [if_neg (show ¬ q < 0 by rw [lt_i, c0]; omega), if_neg (show ¬ (16 : Int32) ≤ q by rw [le_i, show (16 : Int32).toInt = 16 from rfl]; omega), ho, m2 _ (by omega)]
    try (first | rfl | (congr 1 <;> omega))
  · rw [if_neg h1, if_neg (show ¬ (1 : Int32) = 0 by decide)]
    rw [le_i, le_i, c0, show (15 : Int32).toInt = 15 from rfl] at h1
    by_cases h2 : q < 0
    · rw [if_pos h2]
    · rw [if_neg h2]
      rw [lt_i, c0] at h2
      rw [if_pos (show (16 : Int32) ≤ q by rw [le_i, show (16 : Int32).toInt = 16 from rfl]; omega)]
theorem op_state (v1 v2 : Int32) : OPK Inv sX_state sZ_state [.int v1, .int v2] := by
  intro i a j c h
  by_cases h0 : v1 = 0
  · subst h0
    exact op_of (eX_state_0 i a v2 _) (eZ_state_0 j c v2 _ _) (st_0 h.2.2.2.2.1 j v2) h
  · by_cases h1 : v1 = 1
    · subst h1
      exact op_of (eX_state_1 i a v2 _) (eZ_state_1 j c v2 _ _) (st_1 h.2.2.2.2.2 j v2) h
    · exact op_of (eX_state_n i a v1 v2 _ h0 h1) (eZ_state_n j c v1 v2 _ _ (out01 h0 h1)) rfl h
theorem op_register (v1 v2 : Int32) : OPK Inv sX_register sZ_register [.int v1, .int v2] := by
  intro i a j c h
  by_cases h0 : v1 = 0
  · subst h0
    exact op_of (eX_register_0 i a v2 _) (eZ_register_0 j c v2 _ _) (re_0 h.2.2.2.2.1 j v2) h
  · by_cases h1 : v1 = 1
    · subst h1
      exact op_of (eX_register_1 i a v2 _) (eZ_register_1 j c v2 _ _) (re_1 h.2.2.2.2.2 j v2) h
    · exact op_of (eX_register_n i a v1 v2 _ h0 h1) (eZ_register_n j c v1 v2 _ _ (out01 h0 h1)) rfl h
theorem op_word (v1 v2 : Int32) : OPK Inv sX_word sZ_word [.int v1, .int v2] := by
  intro i a j c h
  by_cases h0 : v1 = 0
  · subst h0
    exact op_of (eX_word_0 i a v2 _) (eZ_word_0 j c v2 _ _) (wo_0 h.2.2.2.2.1 j v2) h
  · by_cases h1 : v1 = 1
    · subst h1
      exact op_of (eX_word_1 i a v2 _) (eZ_word_1 j c v2 _ _) (wo_1 h.2.2.2.2.2 j v2) h
    · exact op_of (eX_word_n i a v1 v2 _ h0 h1) (eZ_word_n j c v1 v2 _ _ (out01 h0 h1)) rfl h
theorem op_output (v1 v2 : Int32) : OPK Inv sX_output sZ_output [.int v1, .int v2] := by
  intro i a j c h
  by_cases h0 : v1 = 0
  · subst h0
    exact op_of (eX_output_0 i a v2 _) (eZ_output_0 j c v2 _ _ (ou_0 h.2.2.2.2.1 j v2).2) (ou_0 h.2.2.2.2.1 j v2).1 h
  · by_cases h1 : v1 = 1
    · subst h1
      exact op_of (eX_output_1 i a v2 _) (eZ_output_1 j c v2 _ _ (ou_1 h.2.2.2.2.2 j v2).2) (ou_1 h.2.2.2.2.2 j v2).1 h
    · exact op_of (eX_output_n i a v1 v2 _ h0 h1) (eZ_output_n j c v1 v2 _ _ (out01 h0 h1)) rfl h

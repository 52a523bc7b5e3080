/-! run and trial: the start and the loop, class and reference in lockstep -/
theorem upd_self (f : Nat → Int32) (k : Nat) : upd f k (f k) = f := by
  funext q
  unfold upd
  split
  · rename_i h; rw [h]
  · rfl
theorem sA_ud {c : Nat → Nat → Int32} {n k : Nat} : sA c (upd (c n) k (c n k)) n = c := by rw [upd_self, sA_self]
theorem c16 : (16 : Int32).toInt = 16 := rfl
theorem fa2_0 : ∀ (f : Nat) (i : Nat → Int32) (a : Nat → Nat → Int32) (n : Int32), 0 ≤ n.toInt → (16 - n.toInt).toNat < f → iU_forgetAll_M_2 f i a n = sI (sI (sI i 0 8) 0 9) 0 10 ∧ ∃ g : Nat → Int32, aU_forgetAll_M_2 f i a n = sA a g 16 ∧ ∀ m : Nat, (m < 16 → n.toInt ≤ m → g m = 0) ∧ ((m : Int) < n.toInt → g m = a 16 m) := by
  intro f
  induction f with
  | zero => intro i a n h0 h; exact absurd h (Nat.not_lt_zero _)
  | succ f ih =>
    intro i a n h0 h
    unfold iU_forgetAll_M_2 aU_forgetAll_M_2
    by_cases hk : (16 : Int32) ≤ n
    · rw [if_pos hk, if_pos hk]
      rw [le_i, c16] at hk
      exact ⟨rfl, a 16, sA_self.symm, fun m => ⟨fun h1 h2 => by omega, fun _ => rfl⟩⟩
    · rw [if_neg hk, if_neg hk]
      rw [le_i, c16] at hk
      have e1 : (n + 1).toInt = n.toInt + 1 := add1 h0 (N := 256) (by omega) (by decide)
      have ht := tn_of h0
      obtain ⟨g1, g, g3, g4⟩ := ih i (sA a (upd (a 16) (Int32.toNatClampNeg n) (0 : Int32)) 16) (n + 1) (by omega) (by omega)
      refine ⟨g1, g, by rw [g3, sA_sA], fun m => ⟨fun h1 h2 => ?_, fun h1 => ?_⟩⟩
      · by_cases hm : n.toInt + 1 ≤ m
        · exact (g4 m).1 h1 (by omega)
        · rw [(g4 m).2 (by omega), sA_eq, show m = Int32.toNatClampNeg n by omega, upd_at]
      · rw [(g4 m).2 (by omega), sA_eq, upd_ne _ _ (by omega)]
theorem fa1_0 : ∀ (f : Nat) (i : Nat → Int32) (a : Nat → Nat → Int32) (n : Int32), 0 ≤ n.toInt → (32 - n.toInt).toNat < f → iU_forgetAll_M_1 f i a n = sI (sI (sI i 0 8) 0 9) 0 10 ∧ ∃ g g2 : Nat → Int32, aU_forgetAll_M_1 f i a n = sA (sA a g 15) g2 16 ∧ (∀ m : Nat, (m < 32 → n.toInt ≤ m → g m = 0) ∧ ((m : Int) < n.toInt → g m = a 15 m)) ∧ ∀ m : Nat, m < 16 → g2 m = 0 := by
  intro f
  induction f with
  | zero => intro i a n h0 h; exact absurd h (Nat.not_lt_zero _)
  | succ f ih =>
    intro i a n h0 h
    unfold iU_forgetAll_M_1 aU_forgetAll_M_1
    by_cases hk : (32 : Int32) ≤ n
    · rw [if_pos hk, if_pos hk]
      rw [le_i, c32] at hk
      obtain ⟨x1, g2, x2, x3⟩ := fa2_0 (((16 : Int32).toInt - Int32.toInt (0 : Int32)).toNat + 1) i a 0 (by decide) (by decide)
      exact ⟨x1, a 15, g2, by rw [x2, sA_self], fun m => ⟨fun h1 h2 => by omega, fun _ => rfl⟩, fun m hm => (x3 m).1 hm (by rw [c0]; omega)⟩
    · rw [if_neg hk, if_neg hk]
      rw [le_i, c32] at hk
      have e1 : (n + 1).toInt = n.toInt + 1 := add1 h0 (N := 256) (by omega) (by decide)
      have ht := tn_of h0
      obtain ⟨g1, g, g2, g3, g4, g5⟩ := ih i (sA a (upd (a 15) (Int32.toNatClampNeg n) (0 : Int32)) 15) (n + 1) (by omega) (by omega)
      refine ⟨g1, g, g2, by rw [g3, sA_sA], fun m => ⟨fun h1 h2 => ?_, fun h1 => ?_⟩, g5⟩
      · by_cases hm : n.toInt + 1 ≤ m
        · exact (g4 m).1 h1 (by omega)
        · rw [(g4 m).2 (by omega), sA_eq, show m = Int32.toNatClampNeg n by omega, upd_at]
      · rw [(g4 m).2 (by omega), sA_eq, upd_ne _ _ (by omega)]
theorem an2_0 : ∀ (f : Nat) (j : Nat → Int32) (c : Nat → Nat → Int32) (n : Int32), 0 ≤ n.toInt → (16 - n.toInt).toNat < f → iZ_anew0_2 f j c n = sI j 0 6 ∧ ∃ g : Nat → Int32, aZ_anew0_2 f j c n = sA (sA (sA (sA c g 15) (upd (c 17) (Int32.toNatClampNeg (0 : Int32)) 0) 17) (upd (c 18) (Int32.toNatClampNeg (0 : Int32)) 0) 18) (upd (c 20) (Int32.toNatClampNeg (0 : Int32)) 1) 20 ∧ (∀ m : Nat, (m < 16 → n.toInt ≤ m → g m = 0) ∧ (m < 16 → (m : Int) < n.toInt → g m = c 15 m)) ∧ ∀ m : Nat, 16 ≤ m → g m = c 15 m := by
  intro f
  induction f with
  | zero => intro j c n h0 h; exact absurd h (Nat.not_lt_zero _)
  | succ f ih =>
    intro j c n h0 h
    unfold iZ_anew0_2 aZ_anew0_2
    by_cases hk : (16 : Int32) ≤ n
    · rw [if_pos hk, if_pos hk]
      rw [le_i, c16] at hk
      exact ⟨rfl, c 15, by rw [sA_self] <;> rfl, fun m => ⟨fun h1 h2 => by omega, fun _ _ => rfl⟩, fun _ _ => rfl⟩
    · rw [if_neg hk, if_neg hk]
      rw [le_i, c16] at hk
      have e1 : (n + 1).toInt = n.toInt + 1 := add1 h0 (N := 256) (by omega) (by decide)
      have ht := tn_of h0
      rw [zw0 h0 (by omega)]
      obtain ⟨g1, g, g3, g4, g5⟩ := ih j (sA c (upd (c 15) (Int32.toNatClampNeg n) (0 : Int32)) 15) (n + 1) (by omega) (by omega)
      refine ⟨g1, g, by rw [g3, sA_sA] <;> rfl, fun m => ⟨fun h1 h2 => ?_, fun h1 h2 => ?_⟩, fun m hm => ?_⟩
      · by_cases hm : n.toInt + 1 ≤ m
        · exact (g4 m).1 h1 (by omega)
        · rw [(g4 m).2 h1 (by omega), sA_eq, show m = Int32.toNatClampNeg n by omega, upd_at]
      · rw [(g4 m).2 h1 (by omega), sA_eq, upd_ne _ _ (by omega)]
      · rw [g5 m hm, sA_eq, upd_ne _ _ (by omega)]
theorem an1_0 : ∀ (f : Nat) (j : Nat → Int32) (c : Nat → Nat → Int32) (n : Int32), 0 ≤ n.toInt → (32 - n.toInt).toNat < f → iZ_anew0_1 f j c n = sI j 0 6 ∧ ∃ g g2 : Nat → Int32, aZ_anew0_1 f j c n = sA (sA (sA (sA (sA c g 14) g2 15) (upd (c 17) (Int32.toNatClampNeg (0 : Int32)) 0) 17) (upd (c 18) (Int32.toNatClampNeg (0 : Int32)) 0) 18) (upd (c 20) (Int32.toNatClampNeg (0 : Int32)) 1) 20 ∧ (∀ m : Nat, (m < 32 → n.toInt ≤ m → g m = 0) ∧ (m < 32 → (m : Int) < n.toInt → g m = c 14 m)) ∧ (∀ m : Nat, 32 ≤ m → g m = c 14 m) ∧ (∀ m : Nat, m < 16 → g2 m = 0) ∧ ∀ m : Nat, 16 ≤ m → g2 m = c 15 m := by
  intro f
  induction f with
  | zero => intro j c n h0 h; exact absurd h (Nat.not_lt_zero _)
  | succ f ih =>
    intro j c n h0 h
    unfold iZ_anew0_1 aZ_anew0_1
    by_cases hk : (32 : Int32) ≤ n
    · rw [if_pos hk, if_pos hk]
      rw [le_i, c32] at hk
      obtain ⟨x1, g2, x2, x3, x4⟩ := an2_0 (((16 : Int32).toInt - Int32.toInt (0 : Int32)).toNat + 1) j c 0 (by decide) (by decide)
      exact ⟨x1, c 14, g2, by rw [x2, sA_self], fun m => ⟨fun h1 h2 => by omega, fun _ _ => rfl⟩, fun _ _ => rfl, fun m hm => (x3 m).1 hm (by rw [c0]; omega), x4⟩
    · rw [if_neg hk, if_neg hk]
      rw [le_i, c32] at hk
      have e1 : (n + 1).toInt = n.toInt + 1 := add1 h0 (N := 256) (by omega) (by decide)
      have ht := tn_of h0
      rw [zr0 h0 (by omega)]
      obtain ⟨g1, g, g2, g3, g4, g5, g6, g7⟩ := ih j (sA c (upd (c 14) (Int32.toNatClampNeg n) (0 : Int32)) 14) (n + 1) (by omega) (by omega)
      refine ⟨g1, g, g2, by rw [g3, sA_sA] <;> rfl, fun m => ⟨fun h1 h2 => ?_, fun h1 h2 => ?_⟩, fun m hm => ?_, g6, g7⟩
      · by_cases hm : n.toInt + 1 ≤ m
        · exact (g4 m).1 h1 (by omega)
        · rw [(g4 m).2 h1 (by omega), sA_eq, show m = Int32.toNatClampNeg n by omega, upd_at]
      · rw [(g4 m).2 h1 (by omega), sA_eq, upd_ne _ _ (by omega)]
      · rw [g5 m hm, sA_eq, upd_ne _ _ (by omega)]
theorem start_0 {i : Nat → Int32} {a : Nat → Nat → Int32} {j : Nat → Int32} {c : Nat → Nat → Int32} (h : Inv i a j c) : RR0 (iU_forgetAll_M i a) (aU_forgetAll_M i a) (iZ_anew0 j c) (aZ_anew0 j c) ∧ iU_forgetAll_M i a = sI (sI (sI i 0 8) 0 9) 0 10 := by
  obtain ⟨hP, hB, hC, hI, hS, hO⟩ := h
  obtain ⟨x1, g, g2, x2, x3, x4⟩ := fa1_0 (((32 : Int32).toInt - Int32.toInt (0 : Int32)).toNat + 1) i a 0 (by decide) (by decide)
  obtain ⟨z1, u, u2, z2, z3, z4, z5, z6⟩ := an1_0 (((32 : Int32).toInt - Int32.toInt (0 : Int32)).toNat + 1) j c 0 (by decide) (by decide)
  obtain ⟨m1, m2, m3, m4, m5, m6, m7, m8, m9, m10⟩ := hS
  obtain ⟨o1, o2, o3, o4, o5, o6, o7, o8, o9, o10⟩ := hO
  unfold iU_forgetAll_M aU_forgetAll_M iZ_anew0 aZ_anew0
  rw [x1, x2, z1, z2]
  have q5 : 0 ≤ (j 5).toInt := by rw [← hI.1]; exact hI.2.1
  refine ⟨⟨⟨hP, hB, hC, hI, ⟨fun r hr => ?_, fun r hr => ?_, o3, o4, o5, o6, o7, o8, o9, o10⟩⟩, ⟨fun r hr => ?_, fun r hr => ?_, m3, rfl, rfl, m6, (show (0 : Int) ≤ (0 : Int32).toInt by decide), (show (0 : Int32).toInt ≤ 40 by decide), ?_, (show (0 : Int) ≤ (0 : Int32).toInt by decide), q5, (show (0 : Int32).toInt ≤ (0 : Int32).toInt by decide), (show (0 : Int32).toInt ≤ 20 by decide), fun _ => rfl, rfl⟩⟩, rfl⟩
  · show a 18 r = u (32 + r)
    rw [z4 _ (by omega)]; exact o1 r hr
  · show a 19 r = u2 (16 + r)
    rw [z6 _ (by omega)]; exact o2 r hr
  · show g r = u r
    rw [(x3 r).1 hr (by rw [c0]; omega), (z3 r).1 hr (by rw [c0]; omega)]
  · show g2 r = u2 r
    rw [x4 r hr, z5 r hr]
  · show g 0 = 0
    exact (x3 0).1 (by omega) (by decide)
theorem fa2_1 : ∀ (f : Nat) (i : Nat → Int32) (a : Nat → Nat → Int32) (n : Int32), 0 ≤ n.toInt → (16 - n.toInt).toNat < f → iU_forgetAll_T_2 f i a n = sI (sI (sI i 0 12) 0 13) 0 14 ∧ ∃ g : Nat → Int32, aU_forgetAll_T_2 f i a n = sA a g 19 ∧ ∀ m : Nat, (m < 16 → n.toInt ≤ m → g m = 0) ∧ ((m : Int) < n.toInt → g m = a 19 m) := by
  intro f
  induction f with
  | zero => intro i a n h0 h; exact absurd h (Nat.not_lt_zero _)
  | succ f ih =>
    intro i a n h0 h
    unfold iU_forgetAll_T_2 aU_forgetAll_T_2
    by_cases hk : (16 : Int32) ≤ n
    · rw [if_pos hk, if_pos hk]
      rw [le_i, c16] at hk
      exact ⟨rfl, a 19, sA_self.symm, fun m => ⟨fun h1 h2 => by omega, fun _ => rfl⟩⟩
    · rw [if_neg hk, if_neg hk]
      rw [le_i, c16] at hk
      have e1 : (n + 1).toInt = n.toInt + 1 := add1 h0 (N := 256) (by omega) (by decide)
      have ht := tn_of h0
      obtain ⟨g1, g, g3, g4⟩ := ih i (sA a (upd (a 19) (Int32.toNatClampNeg n) (0 : Int32)) 19) (n + 1) (by omega) (by omega)
      refine ⟨g1, g, by rw [g3, sA_sA], fun m => ⟨fun h1 h2 => ?_, fun h1 => ?_⟩⟩
      · by_cases hm : n.toInt + 1 ≤ m
        · exact (g4 m).1 h1 (by omega)
        · rw [(g4 m).2 (by omega), sA_eq, show m = Int32.toNatClampNeg n by omega, upd_at]
      · rw [(g4 m).2 (by omega), sA_eq, upd_ne _ _ (by omega)]
theorem fa1_1 : ∀ (f : Nat) (i : Nat → Int32) (a : Nat → Nat → Int32) (n : Int32), 0 ≤ n.toInt → (32 - n.toInt).toNat < f → iU_forgetAll_T_1 f i a n = sI (sI (sI i 0 12) 0 13) 0 14 ∧ ∃ g g2 : Nat → Int32, aU_forgetAll_T_1 f i a n = sA (sA a g 18) g2 19 ∧ (∀ m : Nat, (m < 32 → n.toInt ≤ m → g m = 0) ∧ ((m : Int) < n.toInt → g m = a 18 m)) ∧ ∀ m : Nat, m < 16 → g2 m = 0 := by
  intro f
  induction f with
  | zero => intro i a n h0 h; exact absurd h (Nat.not_lt_zero _)
  | succ f ih =>
    intro i a n h0 h
    unfold iU_forgetAll_T_1 aU_forgetAll_T_1
    by_cases hk : (32 : Int32) ≤ n
    · rw [if_pos hk, if_pos hk]
      rw [le_i, c32] at hk
      obtain ⟨x1, g2, x2, x3⟩ := fa2_1 (((16 : Int32).toInt - Int32.toInt (0 : Int32)).toNat + 1) i a 0 (by decide) (by decide)
      exact ⟨x1, a 18, g2, by rw [x2, sA_self], fun m => ⟨fun h1 h2 => by omega, fun _ => rfl⟩, fun m hm => (x3 m).1 hm (by rw [c0]; omega)⟩
    · rw [if_neg hk, if_neg hk]
      rw [le_i, c32] at hk
      have e1 : (n + 1).toInt = n.toInt + 1 := add1 h0 (N := 256) (by omega) (by decide)
      have ht := tn_of h0
      obtain ⟨g1, g, g2, g3, g4, g5⟩ := ih i (sA a (upd (a 18) (Int32.toNatClampNeg n) (0 : Int32)) 18) (n + 1) (by omega) (by omega)
      refine ⟨g1, g, g2, by rw [g3, sA_sA], fun m => ⟨fun h1 h2 => ?_, fun h1 => ?_⟩, g5⟩
      · by_cases hm : n.toInt + 1 ≤ m
        · exact (g4 m).1 h1 (by omega)
        · rw [(g4 m).2 (by omega), sA_eq, show m = Int32.toNatClampNeg n by omega, upd_at]
      · rw [(g4 m).2 (by omega), sA_eq, upd_ne _ _ (by omega)]
theorem an2_1 : ∀ (f : Nat) (j : Nat → Int32) (c : Nat → Nat → Int32) (n : Int32), 0 ≤ n.toInt → (16 - n.toInt).toNat < f → iZ_anew1_2 f j c n = sI j 0 6 ∧ ∃ g : Nat → Int32, aZ_anew1_2 f j c n = sA (sA (sA (sA c g 15) (upd (c 17) (Int32.toNatClampNeg (1 : Int32)) 0) 17) (upd (c 18) (Int32.toNatClampNeg (1 : Int32)) 0) 18) (upd (c 20) (Int32.toNatClampNeg (1 : Int32)) 1) 20 ∧ (∀ m : Nat, (m < 16 → n.toInt ≤ m → g (16 + m) = 0) ∧ (m < 16 → (m : Int) < n.toInt → g (16 + m) = c 15 (16 + m))) ∧ ∀ m : Nat, m < 16 → g m = c 15 m := by
  intro f
  induction f with
  | zero => intro j c n h0 h; exact absurd h (Nat.not_lt_zero _)
  | succ f ih =>
    intro j c n h0 h
    unfold iZ_anew1_2 aZ_anew1_2
    by_cases hk : (16 : Int32) ≤ n
    · rw [if_pos hk, if_pos hk]
      rw [le_i, c16] at hk
      exact ⟨rfl, c 15, by rw [sA_self] <;> rfl, fun m => ⟨fun h1 h2 => by omega, fun _ _ => rfl⟩, fun _ _ => rfl⟩
    · rw [if_neg hk, if_neg hk]
      rw [le_i, c16] at hk
      have e1 : (n + 1).toInt = n.toInt + 1 := add1 h0 (N := 256) (by omega) (by decide)
      have ht := tn_of h0
      rw [zw1 h0 (by omega)]
      obtain ⟨g1, g, g3, g4, g5⟩ := ih j (sA c (upd (c 15) (16 + Int32.toNatClampNeg n) (0 : Int32)) 15) (n + 1) (by omega) (by omega)
      refine ⟨g1, g, by rw [g3, sA_sA] <;> rfl, fun m => ⟨fun h1 h2 => ?_, fun h1 h2 => ?_⟩, fun m hm => ?_⟩
      · by_cases hm : n.toInt + 1 ≤ m
        · exact (g4 m).1 h1 (by omega)
        · rw [(g4 m).2 h1 (by omega), sA_eq, show m = Int32.toNatClampNeg n by omega, upd_at]
      · rw [(g4 m).2 h1 (by omega), sA_eq, upd_ne _ _ (by omega)]
      · rw [g5 m hm, sA_eq, upd_ne _ _ (by omega)]
theorem an1_1 : ∀ (f : Nat) (j : Nat → Int32) (c : Nat → Nat → Int32) (n : Int32), 0 ≤ n.toInt → (32 - n.toInt).toNat < f → iZ_anew1_1 f j c n = sI j 0 6 ∧ ∃ g g2 : Nat → Int32, aZ_anew1_1 f j c n = sA (sA (sA (sA (sA c g 14) g2 15) (upd (c 17) (Int32.toNatClampNeg (1 : Int32)) 0) 17) (upd (c 18) (Int32.toNatClampNeg (1 : Int32)) 0) 18) (upd (c 20) (Int32.toNatClampNeg (1 : Int32)) 1) 20 ∧ (∀ m : Nat, (m < 32 → n.toInt ≤ m → g (32 + m) = 0) ∧ (m < 32 → (m : Int) < n.toInt → g (32 + m) = c 14 (32 + m))) ∧ (∀ m : Nat, m < 32 → g m = c 14 m) ∧ (∀ m : Nat, m < 16 → g2 (16 + m) = 0) ∧ ∀ m : Nat, m < 16 → g2 m = c 15 m := by
  intro f
  induction f with
  | zero => intro j c n h0 h; exact absurd h (Nat.not_lt_zero _)
  | succ f ih =>
    intro j c n h0 h
    unfold iZ_anew1_1 aZ_anew1_1
    by_cases hk : (32 : Int32) ≤ n
    · rw [if_pos hk, if_pos hk]
      rw [le_i, c32] at hk
      obtain ⟨x1, g2, x2, x3, x4⟩ := an2_1 (((16 : Int32).toInt - Int32.toInt (0 : Int32)).toNat + 1) j c 0 (by decide) (by decide)
      exact ⟨x1, c 14, g2, by rw [x2, sA_self], fun m => ⟨fun h1 h2 => by omega, fun _ _ => rfl⟩, fun _ _ => rfl, fun m hm => (x3 m).1 hm (by rw [c0]; omega), x4⟩
    · rw [if_neg hk, if_neg hk]
      rw [le_i, c32] at hk
      have e1 : (n + 1).toInt = n.toInt + 1 := add1 h0 (N := 256) (by omega) (by decide)
      have ht := tn_of h0
      rw [zr1 h0 (by omega)]
      obtain ⟨g1, g, g2, g3, g4, g5, g6, g7⟩ := ih j (sA c (upd (c 14) (32 + Int32.toNatClampNeg n) (0 : Int32)) 14) (n + 1) (by omega) (by omega)
      refine ⟨g1, g, g2, by rw [g3, sA_sA] <;> rfl, fun m => ⟨fun h1 h2 => ?_, fun h1 h2 => ?_⟩, fun m hm => ?_, g6, g7⟩
      · by_cases hm : n.toInt + 1 ≤ m
        · exact (g4 m).1 h1 (by omega)
        · rw [(g4 m).2 h1 (by omega), sA_eq, show m = Int32.toNatClampNeg n by omega, upd_at]
      · rw [(g4 m).2 h1 (by omega), sA_eq, upd_ne _ _ (by omega)]
      · rw [g5 m hm, sA_eq, upd_ne _ _ (by omega)]
theorem start_1 {i : Nat → Int32} {a : Nat → Nat → Int32} {j : Nat → Int32} {c : Nat → Nat → Int32} (h : Inv i a j c) : RR1 (iU_forgetAll_T i a) (aU_forgetAll_T i a) (iZ_anew1 j c) (aZ_anew1 j c) ∧ iU_forgetAll_T i a = sI (sI (sI i 0 12) 0 13) 0 14 := by
  obtain ⟨hP, hB, hC, hI, hO, hS⟩ := h
  obtain ⟨x1, g, g2, x2, x3, x4⟩ := fa1_1 (((32 : Int32).toInt - Int32.toInt (0 : Int32)).toNat + 1) i a 0 (by decide) (by decide)
  obtain ⟨z1, u, u2, z2, z3, z4, z5, z6⟩ := an1_1 (((32 : Int32).toInt - Int32.toInt (0 : Int32)).toNat + 1) j c 0 (by decide) (by decide)
  obtain ⟨m1, m2, m3, m4, m5, m6, m7, m8, m9, m10⟩ := hS
  obtain ⟨o1, o2, o3, o4, o5, o6, o7, o8, o9, o10⟩ := hO
  unfold iU_forgetAll_T aU_forgetAll_T iZ_anew1 aZ_anew1
  rw [x1, x2, z1, z2]
  have q5 : 0 ≤ (j 5).toInt := by rw [← hI.1]; exact hI.2.1
  refine ⟨⟨⟨hP, hB, hC, hI, ⟨fun r hr => ?_, fun r hr => ?_, o3, o4, o5, o6, o7, o8, o9, o10⟩⟩, ⟨fun r hr => ?_, fun r hr => ?_, m3, rfl, rfl, m6, (show (0 : Int) ≤ (0 : Int32).toInt by decide), (show (0 : Int32).toInt ≤ 40 by decide), ?_, (show (0 : Int) ≤ (0 : Int32).toInt by decide), q5, (show (0 : Int32).toInt ≤ (0 : Int32).toInt by decide), (show (0 : Int32).toInt ≤ 20 by decide), fun _ => rfl, rfl⟩⟩, rfl⟩
  · show a 15 r = u r
    rw [z4 _ (by omega)]; exact o1 r hr
  · show a 16 r = u2 r
    rw [z6 _ (by omega)]; exact o2 r hr
  · show g r = u (32 + r)
    rw [(x3 r).1 hr (by rw [c0]; omega), (z3 r).1 hr (by rw [c0]; omega)]
  · show g2 r = u2 (16 + r)
    rw [x4 r hr, z5 r hr]
  · show g 0 = 0
    exact (x3 0).1 (by omega) (by decide)
theorem fr10_0 (i : Nat → Int32) (a : Nat → Nat → Int32) : iM_step i a 10 = i 10 := by
  unfold iM_step iM_stepInCode iM_comeBack iU_readInput_M iU_writeOutput_M
  repeat' (first | with_reducible refine ite_at ?_ ?_ | with_reducible rfl | with_reducible exact sI_ne rfl | (rw [sI_ne rfl]))
theorem ne_0 {f : Nat} {j : Nat → Int32} {c : Nat → Nat → Int32} {t x : Int32} (hx : ¬ x = 0) : rZ_run_l (f + 1) j c t x = x ∧ iZ_run_l (f + 1) j c t x = j ∧ aZ_run_l (f + 1) j c t x = c := by
  unfold rZ_run_l iZ_run_l aZ_run_l
  rw [if_neg hx, if_neg hx, if_neg hx]
  exact ⟨rfl, rfl, rfl⟩
theorem lkl_0 : ∀ (f : Nat) (i : Nat → Int32) (a : Nat → Nat → Int32) (j : Nat → Int32) (c : Nat → Nat → Int32) (n t : Int32), RR0 i a j c → 0 ≤ n.toInt → 0 ≤ (i 10).toInt → (i 10).toInt + n.toInt = t.toInt → t.toInt ≤ 2000 → n.toInt.toNat < f → rU_go_M_l f i a n = rZ_run_l (f + 1) j c t 0 ∧ RR0 (iU_go_M_l f i a n) (aU_go_M_l f i a n) (iZ_run_l (f + 1) j c t 0) (aZ_run_l (f + 1) j c t 0) := by
  intro f
  induction f with
  | zero => intro i a j c n t _ _ _ _ _ h; exact absurd h (Nat.not_lt_zero _)
  | succ f ih =>
    intro i a j c n t h h0 h1 h2 h3 hf
    have hs : c 18 (Int32.toNatClampNeg (0 : Int32)) = i 10 := h.2.2.2.2.2.1
    unfold rU_go_M_l iU_go_M_l aU_go_M_l rZ_run_l iZ_run_l aZ_run_l
    simp only [if_true, hs]
    by_cases hn : n ≤ 0
    · have e := hn
      rw [le_i, c0] at e
      have ht : t ≤ i 10 := by rw [le_i]; omega
      simp only [if_pos hn, if_pos ht]
      exact ⟨trivial, h⟩
    · have e := hn
      rw [le_i, c0] at e
      have ht : ¬ t ≤ i 10 := by rw [le_i]; omega
      simp only [if_neg hn, if_neg ht]
      obtain ⟨q1, q2⟩ := step_M h
      have q3 : aZ_step j c 18 (Int32.toNatClampNeg (0 : Int32)) = iM_step i a 10 := q2.2.2.2.2.2.1
      have q4 := fr10_0 i a
      simp only [← q1, q3]
      by_cases r0 : rM_step i a = 0
      · simp only [if_pos r0]
        rw [r0]
        have en : (n + -1).toInt = n.toInt + -1 := addc rfl (by omega) (by omega)
        have e1 : (iM_step i a 10 + 1).toInt = (i 10).toInt + 1 := by rw [q4]; exact addc c1 (by omega) (by omega)
        exact ih _ _ _ _ (n + -1) t (ss0 q2 _) (by omega) (by show 0 ≤ (iM_step i a 10 + 1).toInt; omega) (by show (iM_step i a 10 + 1).toInt + (n + -1).toInt = t.toInt; omega) h3 (by omega)
      · simp only [if_neg r0]
        by_cases r1 : rM_step i a = 1
        · simp only [if_pos r1]
          rw [r1]
          obtain ⟨y1, y2, y3⟩ := ne_0 (f := f) (j := iZ_step j c) (c := sA (aZ_step j c) (upd (aZ_step j c 18) (Int32.toNatClampNeg (0 : Int32)) (iM_step i a 10 + 1)) 18) (t := t) (x := 1) (by decide)
          rw [y1, y2, y3]
          exact ⟨rfl, ss0 q2 _⟩
        · simp only [if_neg r1]
          have z : sA (aZ_step j c) (upd (aZ_step j c 18) (Int32.toNatClampNeg (0 : Int32)) (iM_step i a 10)) 18 = aZ_step j c := by rw [← q3]; exact sA_ud
          rw [z]
          obtain ⟨y1, y2, y3⟩ := ne_0 (f := f) (j := iZ_step j c) (c := aZ_step j c) (t := t) (x := rM_step i a) r0
          rw [y1, y2, y3]
          exact ⟨rfl, q2⟩
theorem core_0 {i : Nat → Int32} {a : Nat → Nat → Int32} {j : Nat → Int32} {c : Nat → Nat → Int32} (h : RR0 i a j c) (hz : i 10 = 0) {p : Int32} (h0 : 0 ≤ p.toInt) (h1 : p.toInt ≤ 2000) : rU_go_M_l ((Int32.toInt p).toNat + 1) i a p = rZ_run_l ((if (0 : Int32) = 0 then (Int32.toInt p - Int32.toInt (c 18 (Int32.toNatClampNeg (0 : Int32)))).toNat + 1 else 0) + 1) j c p 0 ∧ RR0 (iU_go_M_l ((Int32.toInt p).toNat + 1) i a p) (aU_go_M_l ((Int32.toInt p).toNat + 1) i a p) (iZ_run_l ((if (0 : Int32) = 0 then (Int32.toInt p - Int32.toInt (c 18 (Int32.toNatClampNeg (0 : Int32)))).toNat + 1 else 0) + 1) j c p 0) (aZ_run_l ((if (0 : Int32) = 0 then (Int32.toInt p - Int32.toInt (c 18 (Int32.toNatClampNeg (0 : Int32)))).toNat + 1 else 0) + 1) j c p 0) := by
  have hs : c 18 (Int32.toNatClampNeg (0 : Int32)) = i 10 := h.2.2.2.2.2.1
  rw [if_pos rfl, hs, hz, c0, show p.toInt - 0 = p.toInt by omega]
  exact lkl_0 _ i a j c p p h h0 (by rw [hz]; decide) (by rw [hz, c0]; omega) h1 (by omega)
theorem op_run (v1 : Int32) : OPK Inv sX_run sZ_run [.int v1] := by
  intro i a j c h
  have hs : (j 3).toInt ≤ 256 := by rw [← h.2.2.1.1]; exact h.2.2.1.2.2.1
  have h5 : (j 5).toInt ≤ 20 := by rw [← h.2.2.2.1.1]; exact h.2.2.2.1.2.2.1
  have hst := start_0 h
  have h1 := pl0 (se0 (se0 (se0 hst.1 27 240 (by decide) (by decide)) 28 4096 (by decide) (by decide)) 29 60 (by decide) (by decide)) 48
  have hz : (sI (iU_forgetAll_M i a) 48 11) 10 = 0 := by rw [hst.2]; rfl
  refine op_of (eX_run i a v1 _) (eZ_run j c v1 _ _ hs h5) ?_ ?_
  · unfold rX_run rZ_run rU_go_M iM_begin aM_begin
    rw [wt_eq, ot_eq]
    by_cases hv : 0 ≤ v1 ∧ v1 ≤ 2000
    · rw [if_pos hv, if_pos hv, if_neg (by decide), if_pos rfl]
      rw [le_i, le_i] at hv
      exact (core_0 h1 hz hv.1 hv.2).1
    · rw [if_neg hv, if_neg hv, if_pos rfl, if_neg (by decide)]
  · unfold iX_run aX_run iZ_run aZ_run iU_go_M aU_go_M iM_begin aM_begin
    rw [wt_eq, ot_eq]
    by_cases hv : 0 ≤ v1 ∧ v1 ≤ 2000
    · rw [if_pos hv, if_pos hv, if_neg (by decide), if_neg (by decide), if_pos rfl, if_pos rfl]
      rw [le_i, le_i] at hv
      exact rr_inv0 (core_0 h1 hz hv.1 hv.2).2
    · rw [if_neg hv, if_neg hv, if_pos rfl, if_pos rfl, if_neg (by decide), if_neg (by decide)]
      exact h

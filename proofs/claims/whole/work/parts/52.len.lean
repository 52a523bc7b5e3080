/-! length: class and reference alike -/
theorem sA_sA {a : Nat → Nat → Int32} {u g : Nat → Int32} {k : Nat} : sA (sA a u k) g k = sA a g k := by
  funext q
  unfold sA
  cases Nat.beq q k <;> rfl
theorem sA_self {a : Nat → Nat → Int32} {k : Nat} : sA a (a k) k = a := by
  funext q
  unfold sA
  cases h : Nat.beq q k
  · rfl
  · rw [Nat.eq_of_beq_eq_true h]
theorem c256 : (256 : Int32).toInt = 256 := rfl
theorem rs_l : ∀ (f : Nat) (i : Nat → Int32) (a : Nat → Nat → Int32) (n k : Int32), 0 ≤ k.toInt → (256 - k.toInt).toNat < f → rC_resize_l f i a n k = 1 ∧ iC_resize_l f i a n k = sI i n 5 ∧ ∃ g : Nat → Int32, aC_resize_l f i a n k = sA a g 12 ∧ ∀ m : Nat, (m < 256 → k.toInt ≤ m → g m = 0) ∧ ((m : Int) < k.toInt → g m = a 12 m) := by
  intro f
  induction f with
  | zero => intro i a n k h0 h; exact absurd h (Nat.not_lt_zero _)
  | succ f ih =>
    intro i a n k h0 h
    unfold rC_resize_l iC_resize_l aC_resize_l
    by_cases hk : (256 : Int32) ≤ k
    · rw [if_pos hk, if_pos hk, if_pos hk]
      rw [le_i, c256] at hk
      exact ⟨rfl, rfl, a 12, sA_self.symm, fun m => ⟨fun h1 h2 => by omega, fun _ => rfl⟩⟩
    · rw [if_neg hk, if_neg hk, if_neg hk]
      rw [le_i, c256] at hk
      have e1 : (k + 1).toInt = k.toInt + 1 := add1 h0 (N := 256) (by omega) (by decide)
      have ht := tn_of h0
      obtain ⟨g1, g2, g, g3, g4⟩ := ih i (sA a (upd (a 12) (Int32.toNatClampNeg k) (0 : Int32)) 12) n (k + 1) (by omega) (by omega)
      refine ⟨g1, g2, g, by rw [g3, sA_sA], fun m => ⟨fun h1 h2 => ?_, fun h1 => ?_⟩⟩
      · by_cases hm : k.toInt + 1 ≤ m
        · exact (g4 m).1 h1 (by omega)
        · rw [(g4 m).2 (by omega), sA_eq, show m = Int32.toNatClampNeg k by omega, upd_at]
      · rw [(g4 m).2 (by omega), sA_eq, upd_ne _ _ (by omega)]
theorem zl_l : ∀ (f : Nat) (j : Nat → Int32) (c : Nat → Nat → Int32) (n k : Int32), 0 ≤ k.toInt → n.toInt ≤ 256 → (n.toInt - k.toInt).toNat < f → rZ_length_l f j c n k = 1 ∧ iZ_length_l f j c n k = sI j n 3 ∧ ∃ g : Nat → Int32, aZ_length_l f j c n k = sA c g 11 ∧ ∀ m : Nat, (k.toInt ≤ m → (m : Int) < n.toInt → g m = 0) ∧ ((m : Int) < k.toInt → g m = c 11 m) := by
  intro f
  induction f with
  | zero => intro j c n k h0 hn h; exact absurd h (Nat.not_lt_zero _)
  | succ f ih =>
    intro j c n k h0 hn h
    unfold rZ_length_l iZ_length_l aZ_length_l
    by_cases hk : n ≤ k
    · rw [if_pos hk, if_pos hk, if_pos hk]
      rw [le_i] at hk
      exact ⟨rfl, rfl, c 11, sA_self.symm, fun m => ⟨fun h1 h2 => by omega, fun _ => rfl⟩⟩
    · rw [if_neg hk, if_neg hk, if_neg hk]
      rw [le_i] at hk
      have e1 : (k + 1).toInt = k.toInt + 1 := add1 h0 (N := 256) (by omega) (by decide)
      have ht := tn_of h0
      obtain ⟨g1, g2, g, g3, g4⟩ := ih j (sA c (upd (c 11) (Int32.toNatClampNeg k) (0 : Int32)) 11) n (k + 1) (by omega) hn (by omega)
      refine ⟨g1, g2, g, by rw [g3, sA_sA], fun m => ⟨fun h1 h2 => ?_, fun h1 => ?_⟩⟩
      · by_cases hm : k.toInt + 1 ≤ m
        · exact (g4 m).1 (by omega) h2
        · rw [(g4 m).2 (by omega), sA_eq, show m = Int32.toNatClampNeg k by omega, upd_at]
      · rw [(g4 m).2 (by omega), sA_eq, upd_ne _ _ (by omega)]
theorem op_length (v1 : Int32) : OPK Inv sX_length sZ_length [.int v1] := by
  intro i a j c h
  obtain ⟨hP, hB, ⟨k1, k2, k3, k4, k5⟩, hI, hM, hT⟩ := id h
  refine op_of (eX_length i a v1 _) (eZ_length j c v1 _ _ (by rw [← k1]; exact k2)) ?_ ?_
  · unfold rX_length rC_resize rZ_length
    rw [wt_eq, ot_eq]
    by_cases hv : 0 ≤ v1 ∧ v1 ≤ 256
    · rw [if_pos hv, if_pos hv, if_neg (by decide), if_pos rfl]
      rw [le_i, le_i, c0, c256] at hv
      rw [(rs_l _ i a v1 v1 hv.1 (by rw [c256]; omega)).1, (zl_l _ j c v1 (j 3) (by rw [← k1]; exact k2) hv.2 (by omega)).1]
    · rw [if_neg hv, if_neg hv, if_pos rfl, if_neg (by decide)]
  · unfold iX_length aX_length iC_resize aC_resize iZ_length aZ_length
    rw [wt_eq, ot_eq]
    by_cases hv : 0 ≤ v1 ∧ v1 ≤ 256
    · simp only [if_pos hv, if_neg (show ¬ (1 : Int32) = 0 by decide), if_true]
      rw [le_i, le_i, c0, c256] at hv
      obtain ⟨-, x2, g, x3, x4⟩ := rs_l (((256 : Int32).toInt - Int32.toInt v1).toNat + 1) i a v1 v1 hv.1 (by rw [c256]; omega)
      obtain ⟨-, z2, g', z3, z4⟩ := zl_l ((Int32.toInt v1 - Int32.toInt (j 3)).toNat + 1) j c v1 (j 3) (by rw [← k1]; exact k2) hv.2 (by omega)
      rw [x2, x3, z2, z3]
      refine ⟨hP, hB, ⟨rfl, hv.1, hv.2, ?_, ?_⟩, hI, hM, hT⟩
      · intro n hn
        have hn : (n : Int) < v1.toInt := hn
        show g n = g' n ∧ 0 ≤ (g n).toInt ∧ (g n).toInt ≤ 255
        rw [(x4 n).2 hn]
        by_cases hq : (n : Int) < (i 5).toInt
        · rw [(z4 n).2 (by rw [← k1]; exact hq)]
          exact k4 n hq
        · rw [(z4 n).1 (by rw [← k1]; omega) hn, k5 n (by omega) (by omega)]
          decide
      · intro n hn hn2
        have hn : v1.toInt ≤ (n : Int) := hn
        show g n = 0
        exact (x4 n).1 hn2 hn
    · simp only [if_neg hv, if_neg (show ¬ (1 : Int32) = 0 by decide), if_true]
      exact h

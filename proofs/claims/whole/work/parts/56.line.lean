/-! a line of the trial: class and reference alike -/
theorem wn (p lo hi : Int32) : (rX_within p lo hi = 0) = (p.toInt < lo.toInt ∨ hi.toInt < p.toInt) := by
  rw [wt_eq]
  by_cases h : lo ≤ p ∧ p ≤ hi
  · rw [if_pos h]
    rw [le_i, le_i] at h
    exact propext ⟨fun e => absurd e (by decide), fun e => by omega⟩
  · rw [if_neg h]
    rw [le_i, le_i] at h
    exact propext ⟨fun _ => by omega, fun _ => rfl⟩
theorem ite_z {C : Prop} [Decidable C] (E : Int32) : ((if C then (0 : Int32) else E) = 0) = (C ∨ E = 0) := by
  by_cases h : C
  · simp [h]
  · simp [h]
theorem c26 : (26 : Int32).toInt = 26 := rfl
theorem cm32 : (-32 : Int32).toInt = -32 := rfl
theorem cm2048 : (-2048 : Int32).toInt = -2048 := rfl
theorem c2047 : (2047 : Int32).toInt = 2047 := rfl
theorem c1048575 : (1048575 : Int32).toInt = 1048575 := rfl
/-- what an allowed line's numbers are -/
def LA (k x y z : Int32) : Prop := (0 ≤ k.toInt ∧ k.toInt ≤ 16) ∧ (¬ k = 15 → 0 ≤ x.toInt ∧ x.toInt ≤ 26) ∧ (¬ k = 15 → ¬ k = 16 → ¬ k = 11 → ¬ k = 5 → ¬ k = 13 → 0 ≤ y.toInt ∧ y.toInt ≤ 26) ∧ (k < 4 → 0 ≤ z.toInt ∧ z.toInt ≤ 26) ∧ (k = 16 ∨ k = 11 → 0 ≤ y.toInt ∧ y.toInt ≤ 20) ∧ (k = 8 ∨ k = 9 ∨ k = 10 → 0 ≤ z.toInt ∧ z.toInt ≤ 20) ∧ (k = 15 → 0 ≤ x.toInt ∧ x.toInt ≤ 2)
theorem al_k {k x y z : Int32} (h : ¬ rP_allows k x y z = 0) : k = 0 ∨ k = 1 ∨ k = 2 ∨ k = 3 ∨ k = 4 ∨ k = 5 ∨ k = 6 ∨ k = 7 ∨ k = 8 ∨ k = 9 ∨ k = 10 ∨ k = 11 ∨ k = 12 ∨ k = 13 ∨ k = 14 ∨ k = 15 ∨ k = 16 := by
  refine Classical.byContradiction fun hn => h ?_
  simp only [not_or] at hn
  obtain ⟨h0, h1, h2, h3, h4, h5, h6, h7, h8, h9, h10, h11, h12, h13, h14, h15, h16⟩ := hn
  unfold rP_allows rF_plainFits
  simp only [if_neg h0, if_neg h1, if_neg h2, if_neg h3, if_neg h4, if_neg h5, if_neg h6, if_neg h7, if_neg h8, if_neg h9, if_neg h10, if_neg h11, if_neg h12, if_neg h13, if_neg h14, if_neg h15, if_neg h16]
theorem al_of {k x y z : Int32} (h : ¬ rP_allows k x y z = 0) : LA k x y z := by
  rcases al_k h with e | e | e | e | e | e | e | e | e | e | e | e | e | e | e | e | e <;> subst e <;> simp (config := { decide := true }) only [rP_allows, rF_plainFits, rP_isFree, rP_mayBeTarget, rF_isShort, wn, ite_z, if_true, if_false, not_or, c0, c1, c26, c20, c2, c31, cm32, cm2048, c2047, c1048575, or_false] at h <;> unfold LA <;> simp (config := { decide := true }) only [false_imp_iff, true_imp_iff, forall_const, true_and, and_true, or_false, false_or, not_true_eq_false, not_false_eq_true] <;> omega
theorem has_1 {p N : Int32} (h0 : 0 ≤ p.toInt) (h1 : p.toInt < N.toInt) (h2 : N.toInt ≤ 20) : rP_has p N = 1 := by
  unfold rP_has
  rw [if_neg (by rw [lt_i, c0]; omega), if_neg (by rw [le_i]; omega), if_neg (by rw [le_i, c20]; omega)]
theorem addr_b {i : Nat → Int32} {a : Nat → Nat → Int32} {p : Int32} (h0 : 0 ≤ p.toInt) (h1 : p.toInt ≤ (i 3).toInt) (h2 : (i 3).toInt ≤ 20) : rP_addressOf_b i a p = a 10 p.toNatClampNeg := by
  unfold rP_addressOf_b
  rw [if_neg (show ¬ (20 : Int32) < i 3 by rw [lt_i, c20]; omega), wt_eq, if_pos (show 0 ≤ p ∧ p ≤ i 3 by rw [le_i, le_i, c0]; omega), if_neg (by decide)]
theorem bta_l {i : Nat → Int32} {a : Nat → Nat → Int32} {j : Nat → Int32} {c : Nat → Nat → Int32} (b1 : i 3 = j 1) (b3 : (i 3).toInt ≤ 20) (b7 : ∀ n : Nat, (n : Int) ≤ (i 3).toInt → a 10 n = c 8 n) (h2 : ¬ j 2 = 0) {t : Int32} (ht : t - t / 16 * 16 = 0) : ∀ (f : Nat) (n : Int32), 0 ≤ n.toInt → ((i 3).toInt + 1 - n.toInt).toNat < f → rP_bundleTargetAt_l f i a t n = rZ_lineAt_l f j c t n ∧ (rZ_lineAt_l f j c t n = -1 ∨ (0 ≤ (rZ_lineAt_l f j c t n).toInt ∧ (rZ_lineAt_l f j c t n).toInt ≤ (i 3).toInt)) := by
  intro f
  induction f with
  | zero => intro n h0 h; exact absurd h (Nat.not_lt_zero _)
  | succ f ih =>
    intro n h0 h
    unfold rP_bundleTargetAt_l rZ_lineAt_l
    rw [← b1]
    by_cases hk : i 3 < n
    · rw [if_pos hk, if_pos hk]
      exact ⟨rfl, Or.inl rfl⟩
    · rw [if_neg hk, if_neg hk, if_pos ht, if_neg h2]
      rw [lt_i] at hk
      have e1 : (n + 1).toInt = n.toInt + 1 := add1 h0 (N := 256) (by omega) (by decide)
      rw [addr_b h0 (by omega) b3, b7 _ (by rw [tn_of h0]; omega)]
      by_cases he : c 8 n.toNatClampNeg = t
      · rw [if_pos he, if_pos he]
        exact ⟨rfl, Or.inr ⟨h0, by omega⟩⟩
      · rw [if_neg he, if_neg he]
        exact ih (n + 1) (by omega) (by omega)
theorem bta_eq {i : Nat → Int32} {a : Nat → Nat → Int32} {j : Nat → Int32} {c : Nat → Nat → Int32} (hB : IvB i a j c) (h3 : 0 < (i 3).toInt) (t : Int32) : rP_bundleTargetAt i a t = rZ_lineAt j c t ∧ (rZ_lineAt j c t = -1 ∨ (0 ≤ (rZ_lineAt j c t).toInt ∧ (rZ_lineAt j c t).toInt ≤ (i 3).toInt)) := by
  obtain ⟨b1, b2, b3, b4, b5, b6, b7⟩ := hB
  have h2 : ¬ j 2 = 0 := fun e => by
    have := b5 (b4.trans e)
    rw [this, c0] at h3
    omega
  unfold rP_bundleTargetAt rZ_lineAt
  rw [← b1]
  by_cases ht : t - t / 16 * 16 = 0
  · rw [if_pos ht]
    exact bta_l b1 b3 b7 h2 ht _ 0 (by decide) (by rw [c0]; omega)
  · rw [if_neg ht]
    unfold rZ_lineAt_l
    rw [← b1, if_neg (show ¬ i 3 < 0 by rw [lt_i, c0]; omega), if_neg ht]
    exact ⟨rfl, Or.inl rfl⟩
def RQ1 (i : Nat → Int32) (a : Nat → Nat → Int32) (j : Nat → Int32) (c : Nat → Nat → Int32) : Prop := RR1 i a j c ∧ 0 ≤ (i 15).toInt ∧ (i 15).toInt ≤ (i 3).toInt
theorem q_go {i : Nat → Int32} {a : Nat → Nat → Int32} {j : Nat → Int32} {c : Nat → Nat → Int32} (h : RR1 i a j c) (v : Int32) (h0 : 0 ≤ v.toInt) (h1 : v.toInt ≤ (i 3).toInt) : RQ1 (sI i v 15) a j (sA c (upd (c 19) (Int32.toNatClampNeg (1 : Int32)) v) 19) := ⟨pl1 h v, h0, h1⟩
theorem ck_la {k x y z : Int32} (h : LA k x y z) (hk : k = 0 ∨ k = 1 ∨ k = 2 ∨ k = 3 ∨ k = 4 ∨ k = 5 ∨ k = 13 ∨ k = 14) : CK1 k x y z := by
  obtain ⟨-, h2, h3, h4, -, -, -⟩ := h
  have n15 : ¬ k = 15 := fun e => by subst e; revert hk; decide
  have n16 : ¬ k = 16 := fun e => by subst e; revert hk; decide
  have n11 : ¬ k = 11 := fun e => by subst e; revert hk; decide
  have hx := h2 n15
  exact ⟨hx.1, by omega, fun a5 a13 => ⟨(h3 n15 n16 n11 a5 a13).1, by have := (h3 n15 n16 n11 a5 a13).2; omega⟩, fun a4 => ⟨(h4 a4).1, by have := (h4 a4).2; omega⟩, hk⟩
set_option maxRecDepth 100000 in
theorem step_T {i : Nat → Int32} {a : Nat → Nat → Int32} {j : Nat → Int32} {c : Nat → Nat → Int32} (h : RQ1 i a j c) : rT_step i a = rZ_lineDone j c ∧ RQ1 (iT_step i a) (aT_step i a) (iZ_lineDone j c) (aZ_lineDone j c) := by
  obtain ⟨hr, l0, l1⟩ := id h
  have hp : c 19 (Int32.toNatClampNeg (1 : Int32)) = i 15 := hr.2.2.2.2.2.2.1
  have hB : IvB i a j c := hr.1.2.1
  obtain ⟨b1, b2, b3, b4, b5, b6, b7⟩ := id hB
  unfold rT_step iT_step aT_step rZ_lineDone iZ_lineDone aZ_lineDone
  have g0 : ¬ i 15 < 0 := by rw [lt_i, c0]; omega
  simp only [hp, ← b1, if_neg g0]
  by_cases g1 : i 15 = i 3
  · have g2 : ¬ i 15 < i 3 := by rw [lt_i, g1]; omega
    simp only [if_pos g1, if_neg g2]
    exact ⟨trivial, h⟩
  · have g3 : ¬ (i 15).toInt = (i 3).toInt := fun e => g1 (Int32.toInt_inj.mp e)
    have g2 : i 15 < i 3 := by rw [lt_i]; omega
    simp only [if_neg g1, if_pos g2]
    have hl := tn_of l0
    obtain ⟨y1, y2, y3, y4, al, t1, t2, t3⟩ := b6 (i 15).toNatClampNeg (by omega)
    have hh : rP_has (i 15) (i 3) = 1 := has_1 l0 (by omega) b3
    have e6 : rP_kindAt_b i a (i 15) = c 4 (i 15).toNatClampNeg := by unfold rP_kindAt_b; rw [hh, if_neg (by decide), y1]
    have e7 : rP_firstAt_b i a (i 15) = c 5 (i 15).toNatClampNeg := by unfold rP_firstAt_b; rw [hh, if_neg (by decide), y2]
    have e8 : rP_secondAt_b i a (i 15) = c 6 (i 15).toNatClampNeg := by unfold rP_secondAt_b; rw [hh, if_neg (by decide), y3]
    have e9 : rP_thirdAt_b i a (i 15) = c 7 (i 15).toNatClampNeg := by unfold rP_thirdAt_b; rw [hh, if_neg (by decide), y4]
    have hn : (i 15 + 1).toInt = (i 15).toInt + 1 := add1 l0 (N := 256) (by omega) (by decide)
    have e10 : rP_addressOf_b i a (i 15 + 1) = c 8 (i 15 + 1).toNatClampNeg := by rw [addr_b (by omega) (by omega) b3, b7 _ (by rw [tn_of (by omega)]; omega)]
    simp only [e6, e7, e8, e9, e10]
    clear e6 e7 e8 e9 e10 y1 y2 y3 y4
    have la := al_of al
    generalize c 4 (i 15).toNatClampNeg = k at *
    generalize c 5 (i 15).toNatClampNeg = x at *
    generalize c 6 (i 15).toNatClampNeg = y at *
    generalize c 7 (i 15).toNatClampNeg = z at *
    have n0 : 0 ≤ (i 15 + 1).toInt := by omega
    have n1 : (i 15 + 1).toInt ≤ (i 3).toInt := by omega
    obtain ⟨-, lx, ly, lz, lt, lc, ls⟩ := id la
    rcases al_k al with e | e | e | e | e | e | e | e | e | e | e | e | e | e | e | e | e <;> subst e <;> simp (config := { decide := true }) only [if_true, if_false, true_and]
    · exact q_go (co1 hr 0 _ _ _ (ck_la la (by decide))) _ n0 n1
    · exact q_go (co1 hr 1 _ _ _ (ck_la la (by decide))) _ n0 n1
    · exact q_go (co1 hr 2 _ _ _ (ck_la la (by decide))) _ n0 n1
    · exact q_go (co1 hr 3 _ _ _ (ck_la la (by decide))) _ n0 n1
    · exact q_go (co1 hr 4 _ _ _ (ck_la la (by decide))) _ n0 n1
    · exact q_go (co1 hr 5 _ _ _ (ck_la la (by decide))) _ n0 n1
    · have hx := lx (by decide)
      have hy := ly (by decide) (by decide) (by decide) (by decide) (by decide)
      obtain ⟨m1, m2⟩ := mv1 hr 6 x y z hx.1 (by omega) hy.1 (by omega)
      rw [m1]
      by_cases hm : rZ_moved1 j c 6 x y z = 0
      · simp only [if_pos hm]; exact ⟨trivial, m2, l0, l1⟩
      · simp only [if_neg hm]; exact ⟨trivial, q_go m2 _ n0 n1⟩
    · have hx := lx (by decide)
      have hy := ly (by decide) (by decide) (by decide) (by decide) (by decide)
      obtain ⟨m1, m2⟩ := mv1 hr 7 x y z hx.1 (by omega) hy.1 (by omega)
      rw [m1]
      by_cases hm : rZ_moved1 j c 7 x y z = 0
      · simp only [if_pos hm]; exact ⟨trivial, m2, l0, l1⟩
      · simp only [if_neg hm]; exact ⟨trivial, q_go m2 _ n0 n1⟩
    · have hx := lx (by decide)
      have hy := ly (by decide) (by decide) (by decide) (by decide) (by decide)
      have hz := lc (by decide)
      have hz1 := t1 (by decide)
      rw [ho1 hr.2 8 x y hx.1 (by omega) hy.1 (by omega)]
      by_cases hm : rZ_holds1 j c 8 x y = 0
      · simp only [if_pos hm]; exact ⟨trivial, q_go hr _ n0 n1⟩
      · simp only [if_neg hm]; exact ⟨trivial, q_go hr _ hz.1 hz1⟩
    · have hx := lx (by decide)
      have hy := ly (by decide) (by decide) (by decide) (by decide) (by decide)
      have hz := lc (by decide)
      have hz1 := t1 (by decide)
      rw [ho1 hr.2 9 x y hx.1 (by omega) hy.1 (by omega)]
      by_cases hm : rZ_holds1 j c 9 x y = 0
      · simp only [if_pos hm]; exact ⟨trivial, q_go hr _ n0 n1⟩
      · simp only [if_neg hm]; exact ⟨trivial, q_go hr _ hz.1 hz1⟩
    · have hx := lx (by decide)
      have hy := ly (by decide) (by decide) (by decide) (by decide) (by decide)
      have hz := lc (by decide)
      have hz1 := t1 (by decide)
      rw [ho1 hr.2 10 x y hx.1 (by omega) hy.1 (by omega)]
      by_cases hm : rZ_holds1 j c 10 x y = 0
      · simp only [if_pos hm]; exact ⟨trivial, q_go hr _ n0 n1⟩
      · simp only [if_neg hm]; exact ⟨trivial, q_go hr _ hz.1 hz1⟩
    · have hx := lx (by decide)
      have hy := lt (by decide)
      exact q_go (se1 hr x _ hx.1 (by omega)) _ hy.1 (t2 rfl)
    · have hx := lx (by decide)
      have hy := ly (by decide) (by decide) (by decide) (by decide) (by decide)
      rw [gt1 hr.2 y hy.1 (by omega)]
      obtain ⟨m1, m2⟩ := bta_eq hB (by omega) (rZ_get1 j c y)
      unfold rT_leap iT_leap aT_leap
      rw [m1]
      generalize rZ_lineAt j c (rZ_get1 j c y) = u at *
      rcases m2 with e | ⟨u0, u1⟩
      · subst e
        simp (config := { decide := true }) only [if_true, if_false, true_and]
        exact h
      · have v1 : ¬ u = -1 := fun e => by subst e; revert u0; decide
        have v2 : 0 ≤ u := by rw [le_i, c0]; exact u0
        simp only [if_neg v1, if_pos v2]
        exact ⟨trivial, q_go (se1 hr x _ hx.1 (by omega)) _ u0 u1⟩
    · exact q_go (co1 hr 13 _ _ _ (ck_la la (by decide))) _ n0 n1
    · exact q_go (co1 hr 14 _ _ _ (ck_la la (by decide))) _ n0 n1
    · have hs := se1 hr 1 (c 8 (i 15 + 1).toNatClampNeg) (by decide) (by decide)
      unfold rT_serve iT_serve aT_serve
      by_cases x2 : x = 2
      · simp only [if_pos x2]
        exact ⟨trivial, hs, l0, l1⟩
      · simp only [if_neg x2]
        by_cases x0 : x = 0
        · subst x0
          simp only [if_true]
          exact ⟨trivial, q_go (rd1 hs) _ n0 (by rw [frU_readInput_T]; exact n1)⟩
        · simp only [if_neg x0]
          exact ⟨trivial, q_go (wr1 hs x x0) _ n0 (by rw [frU_writeOutput_T]; exact n1)⟩
    · have hx := lx (by decide)
      have hy := lt (by decide)
      have hy1 := t3 rfl
      rw [addr_b hy.1 hy1 b3, b7 _ (by rw [tn_of hy.1]; exact hy1)]
      exact q_go (se1 hr x _ hx.1 (by omega)) _ n0 n1

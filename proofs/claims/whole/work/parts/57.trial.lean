/-! trial: class and reference alike -/
theorem fr10_1r (i : Nat → Int32) (a : Nat → Nat → Int32) : iU_readInput_T i a 14 = i 14 := by
  unfold iU_readInput_T
  repeat' (first | with_reducible refine ite_at ?_ ?_ | with_reducible rfl | with_reducible exact sI_ne rfl)
theorem fr10_1w (i : Nat → Int32) (a : Nat → Nat → Int32) : iU_writeOutput_T i a 14 = i 14 := by
  unfold iU_writeOutput_T
  repeat' (first | with_reducible refine ite_at ?_ ?_ | with_reducible rfl | with_reducible exact sI_ne rfl)
theorem fr10_1 (i : Nat → Int32) (a : Nat → Nat → Int32) : iT_step i a 14 = i 14 := by
  unfold iT_step iT_leap iT_serve
  repeat' (first | with_reducible refine ite_at ?_ ?_ | with_reducible rfl | with_reducible exact sI_ne rfl | (rw [sI_ne rfl]; with_reducible exact fr10_1r ..) | (rw [sI_ne rfl]; with_reducible exact fr10_1w ..))
theorem ne_1 {f : Nat} {j : Nat → Int32} {c : Nat → Nat → Int32} {t x : Int32} (hx : ¬ x = 0) : rZ_trial_l (f + 1) j c t x = x ∧ iZ_trial_l (f + 1) j c t x = j ∧ aZ_trial_l (f + 1) j c t x = c := by
  unfold rZ_trial_l iZ_trial_l aZ_trial_l
  rw [if_neg hx, if_neg hx, if_neg hx]
  exact ⟨rfl, rfl, rfl⟩
theorem lkl_1 : ∀ (f : Nat) (i : Nat → Int32) (a : Nat → Nat → Int32) (j : Nat → Int32) (c : Nat → Nat → Int32) (n t : Int32), RQ1 i a j c → 0 ≤ n.toInt → 0 ≤ (i 14).toInt → (i 14).toInt + n.toInt = t.toInt → t.toInt ≤ 2000 → n.toInt.toNat < f → rU_go_T_l f i a n = rZ_trial_l (f + 1) j c t 0 ∧ RQ1 (iU_go_T_l f i a n) (aU_go_T_l f i a n) (iZ_trial_l (f + 1) j c t 0) (aZ_trial_l (f + 1) j c t 0) := by
  intro f
  induction f with
  | zero => intro i a j c n t _ _ _ _ _ h; exact absurd h (Nat.not_lt_zero _)
  | succ f ih =>
    intro i a j c n t h h0 h1 h2 h3 hf
    have hs : c 18 (Int32.toNatClampNeg (1 : Int32)) = i 14 := h.1.2.2.2.2.2.1
    unfold rU_go_T_l iU_go_T_l aU_go_T_l rZ_trial_l iZ_trial_l aZ_trial_l
    simp only [if_true, hs]
    by_cases hn : n ≤ 0
    · have e := hn
      rw [le_i, c0] at e
      have ht : t ≤ i 14 := by rw [le_i]; omega
      simp only [if_pos hn, if_pos ht]
      exact ⟨trivial, h⟩
    · have e := hn
      rw [le_i, c0] at e
      have ht : ¬ t ≤ i 14 := by rw [le_i]; omega
      simp only [if_neg hn, if_neg ht]
      obtain ⟨q1, q2⟩ := step_T h
      have q3 : aZ_lineDone j c 18 (Int32.toNatClampNeg (1 : Int32)) = iT_step i a 14 := q2.1.2.2.2.2.2.1
      have q4 := fr10_1 i a
      simp only [← q1, q3]
      by_cases r0 : rT_step i a = 0
      · simp only [if_pos r0]
        rw [r0]
        have en : (n + -1).toInt = n.toInt + -1 := addc rfl (by omega) (by omega)
        have e1 : (iT_step i a 14 + 1).toInt = (i 14).toInt + 1 := by rw [q4]; exact addc c1 (by omega) (by omega)
        exact ih _ _ _ _ (n + -1) t (⟨ss1 q2.1 _, q2.2⟩) (by omega) (by show 0 ≤ (iT_step i a 14 + 1).toInt; omega) (by show (iT_step i a 14 + 1).toInt + (n + -1).toInt = t.toInt; omega) h3 (by omega)
      · simp only [if_neg r0]
        by_cases r1 : rT_step i a = 1
        · simp only [if_pos r1]
          rw [r1]
          obtain ⟨y1, y2, y3⟩ := ne_1 (f := f) (j := iZ_lineDone j c) (c := sA (aZ_lineDone j c) (upd (aZ_lineDone j c 18) (Int32.toNatClampNeg (1 : Int32)) (iT_step i a 14 + 1)) 18) (t := t) (x := 1) (by decide)
          rw [y1, y2, y3]
          exact ⟨rfl, ⟨ss1 q2.1 _, q2.2⟩⟩
        · simp only [if_neg r1]
          have z : sA (aZ_lineDone j c) (upd (aZ_lineDone j c 18) (Int32.toNatClampNeg (1 : Int32)) (iT_step i a 14)) 18 = aZ_lineDone j c := by rw [← q3]; exact sA_ud
          rw [z]
          obtain ⟨y1, y2, y3⟩ := ne_1 (f := f) (j := iZ_lineDone j c) (c := aZ_lineDone j c) (t := t) (x := rT_step i a) r0
          rw [y1, y2, y3]
          exact ⟨rfl, q2⟩
theorem core_1 {i : Nat → Int32} {a : Nat → Nat → Int32} {j : Nat → Int32} {c : Nat → Nat → Int32} (h : RQ1 i a j c) (hz : i 14 = 0) {p : Int32} (h0 : 0 ≤ p.toInt) (h1 : p.toInt ≤ 2000) : rU_go_T_l ((Int32.toInt p).toNat + 1) i a p = rZ_trial_l ((if (0 : Int32) = 0 then (Int32.toInt p - Int32.toInt (c 18 (Int32.toNatClampNeg (1 : Int32)))).toNat + 1 else 0) + 1) j c p 0 ∧ RQ1 (iU_go_T_l ((Int32.toInt p).toNat + 1) i a p) (aU_go_T_l ((Int32.toInt p).toNat + 1) i a p) (iZ_trial_l ((if (0 : Int32) = 0 then (Int32.toInt p - Int32.toInt (c 18 (Int32.toNatClampNeg (1 : Int32)))).toNat + 1 else 0) + 1) j c p 0) (aZ_trial_l ((if (0 : Int32) = 0 then (Int32.toInt p - Int32.toInt (c 18 (Int32.toNatClampNeg (1 : Int32)))).toNat + 1 else 0) + 1) j c p 0) := by
  have hs : c 18 (Int32.toNatClampNeg (1 : Int32)) = i 14 := h.1.2.2.2.2.2.1
  rw [if_pos rfl, hs, hz, c0, show p.toInt - 0 = p.toInt by omega]
  exact lkl_1 _ i a j c p p h h0 (by rw [hz]; decide) (by rw [hz, c0]; omega) h1 (by omega)
theorem pl_of {i : Nat → Int32} {a : Nat → Nat → Int32} {j : Nat → Int32} {c : Nat → Nat → Int32} (h : IvB i a j c) : PL j c := by
  obtain ⟨b1, b2, b3, b4, b5, b6, b7⟩ := h
  rw [b1] at b2 b3 b6
  refine ⟨b2, b3, fun n hn => ?_⟩
  obtain ⟨-, -, -, -, al, t1, t2, t3⟩ := b6 n hn
  obtain ⟨l1, l2, l3, l4, l5, l6, l7⟩ := al_of al
  have inr : ∀ {x : Int32}, 0 ≤ x.toInt ∧ x.toInt ≤ 26 → inR x := fun h => ⟨h.1, by omega⟩
  have hk := al_k al
  refine ⟨⟨fun e => inr (l2 e), fun e1 e2 e3 e4 e5 => inr (l3 e1 e2 e3 e4 e5), fun e => inr (l4 e), fun e => ?_, l1.1, l1.2⟩, fun e1 e2 => ?_, fun e => ?_⟩
  · rw [vp_in_iff]
    have := l5 (Or.inl e)
    omega
  · have e3 : c 4 n = 8 ∨ c 4 n = 9 ∨ c 4 n = 10 := by
      simp only [← Int32.toInt_inj]
      rw [lt_i, show (8 : Int32).toInt = 8 from rfl] at e1
      rw [lt_i, c10] at e2
      rw [show (8 : Int32).toInt = 8 from rfl, show (9 : Int32).toInt = 9 from rfl, c10]
      omega
    exact ⟨(l6 e3).1, t1 e3⟩
  · exact ⟨(l5 (Or.inr e)).1, t2 e⟩
theorem op_trial (v1 : Int32) : OPK Inv sX_trial sZ_trial [.int v1] := by
  intro i a j c h
  have h3 : (i 3).toInt ≤ 1000 := by have := h.2.1.2.2.1; omega
  have h30 : 0 ≤ (i 3).toInt := h.2.1.2.1
  have hP := pl_of h.2.1
  have h5 : (j 5).toInt ≤ 20 := by rw [← h.2.2.2.1.1]; exact h.2.2.2.1.2.2.1
  have hst := start_1 h
  have h1 : RQ1 (sI (iU_forgetAll_T i a) 0 15) (aU_forgetAll_T i a) (iZ_anew1 j c) (sA (aZ_anew1 j c) (upd (aZ_anew1 j c 19) (Int32.toNatClampNeg (1 : Int32)) 0) 19) := q_go hst.1 0 (by decide) (by rw [hst.2]; exact h30)
  have hz : (sI (iU_forgetAll_T i a) 0 15) 14 = 0 := by rw [hst.2]; rfl
  refine op_of (eX_trial i a v1 _ h3) (eZ_trial j c v1 _ _ hP h5) ?_ ?_
  · unfold rX_trial rZ_trial rU_go_T iT_begin
    rw [wt_eq, ot_eq]
    by_cases hv : 0 ≤ v1 ∧ v1 ≤ 2000
    · rw [if_pos hv, if_pos hv, if_neg (by decide), if_pos rfl]
      rw [le_i, le_i] at hv
      exact (core_1 h1 hz hv.1 hv.2).1
    · rw [if_neg hv, if_neg hv, if_pos rfl, if_neg (by decide)]
  · unfold iX_trial aX_trial iZ_trial aZ_trial iU_go_T aU_go_T iT_begin
    rw [wt_eq, ot_eq]
    by_cases hv : 0 ≤ v1 ∧ v1 ≤ 2000
    · rw [if_pos hv, if_pos hv, if_neg (by decide), if_neg (by decide), if_pos rfl, if_pos rfl]
      rw [le_i, le_i] at hv
      exact rr_inv1 (core_1 h1 hz hv.1 hv.2).2.1
    · rw [if_neg hv, if_neg hv, if_pos rfl, if_pos rfl, if_neg (by decide), if_neg (by decide)]
      exact h

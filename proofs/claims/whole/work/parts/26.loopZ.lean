/-! walks by program: the reference's loops -/
theorem ms_k {n : Int32} {f : Nat} (h : ¬ (13 : Int32) ≤ n ∨ ¬ (15 : Int32) ≤ n) (hm : ((15 : Int32).toInt - n.toInt).toNat < f + 1) : ((15 : Int32).toInt - (n + 1).toInt).toNat < f := by
  refine ms_up (M := 15) ?_ hm
  rcases h with h | h
  · rw [le_i] at h ⊢
    have e1 : (13 : Int32).toInt = 13 := rfl
    have e2 : (15 : Int32).toInt = 15 := rfl
    omega
  · exact h
theorem vp_lt {x M : Int32} {N : Nat} (h0 : 0 ≤ x.toInt) (h1 : x.toInt < N) : vp_in x N := by rw [vp_in_iff]; omega
theorem nle {x y : Int32} (h : ¬ x ≤ y) : y.toInt < x.toInt := by rw [le_i] at h; omega
theorem nlt {x y : Int32} (h : ¬ x < y) : y.toInt ≤ x.toInt := by rw [lt_i] at h; omega
noncomputable def rZ_kind_l : Nat → (Nat → Int32) → (Nat → Nat → Int32) → Int32 → Int32 → Int32 → Int32
  | 0, _, _, _, _, _ => 0
  | f + 1, j, c, x, w, n => if (rZ_isLong x) = (0 : Int32) then if (15 : Int32) ≤ n then (-1 : Int32) else if (rZ_fits n (rZ_fieldA n w) (rZ_fieldB n w) (rZ_fieldC n w)) = (0 : Int32) then (rZ_kind_l f j c x w (n + (1 : Int32))) else if (rZ_made n (rZ_fieldA n w) (rZ_fieldB n w) (rZ_fieldC n w)) = w then n else (rZ_kind_l f j c x w (n + (1 : Int32))) else if (13 : Int32) ≤ n then (-1 : Int32) else if (rZ_fits n (rZ_fieldA n w) (rZ_fieldB n w) (rZ_fieldC n w)) = (0 : Int32) then (rZ_kind_l f j c x w (n + (1 : Int32))) else if (rZ_made n (rZ_fieldA n w) (rZ_fieldB n w) (rZ_fieldC n w)) = w then n else (rZ_kind_l f j c x w (n + (1 : Int32)))
set_option maxHeartbeats 4000000 in
set_option maxRecDepth 100000 in
theorem tZ_kind_l (i : Nat → Int32) (a : Nat → Nat → Int32) : ∀ (f : Nat) (j : Nat → Int32) (c : Nat → Nat → Int32) (x w n : Int32), ((15 : Int32).toInt - Int32.toInt n).toNat < f → am_T sZ_kind (some (.int (rZ_kind_l f j c x w n))) (wX i a (wZ j c)) 30 [.ref 30, .int x, .int w, .int n, .retAddr 0, .retAddr 0, .retAddr 0] [] (wX i a (wZ j c)) 0 0 := by
  intro f
  induction f with
  | zero => intro j c x w n hm; exact absurd hm (Nat.not_lt_zero _)
  | succ f ih =>
    intro j c x w n hm
    refine am_wu_T gdZ_kind [30] 400 ?_
    refine am_call (eZ_isLong x _) ?_
    refine am_split (fun h1 => ?_) (fun h1 => ?_)
    · skip
      refine am_split (fun h2 => ?_) (fun h2 => ?_)
      · skip
        exact am_ri (S := sZ_kind) (by simp only [rZ_kind_l, if_pos h1, if_pos h2]; try rfl) rfl rfl rfl
      · skip
        refine am_call (eZ_fieldA n w _) ?_
        refine am_call (eZ_fieldB n w _) ?_
        refine am_call (eZ_fieldC n w _) ?_
        refine am_call (eZ_fits n (rZ_fieldA n w) (rZ_fieldB n w) (rZ_fieldC n w) _) ?_
        refine am_split (fun h3 => ?_) (fun h3 => ?_)
        · skip
          exact am_Tc (am_Tw (ih j c x w (n + (1 : Int32)) (ms_k (by first | exact Or.inl (by assumption) | exact Or.inr (by assumption)) hm)) ⟨Or.inr rfl, Or.inr rfl, Or.inr rfl, Or.inr rfl, Or.inl rfl, Or.inl rfl, Or.inl rfl, trivial⟩) (by simp only [rZ_kind_l, if_pos h1, if_neg h2, if_pos h3]) rfl
        · skip
          refine am_call (eZ_made n (rZ_fieldA n w) (rZ_fieldB n w) (rZ_fieldC n w) _) ?_
          refine am_split (fun h4 => ?_) (fun h4 => ?_)
          · skip
            exact am_ri (S := sZ_kind) (by simp only [rZ_kind_l, if_pos h1, if_neg h2, if_neg h3, if_pos h4]; try rfl) rfl rfl rfl
          · skip
            exact am_Tc (am_Tw (ih j c x w (n + (1 : Int32)) (ms_k (by first | exact Or.inl (by assumption) | exact Or.inr (by assumption)) hm)) ⟨Or.inr rfl, Or.inr rfl, Or.inr rfl, Or.inr rfl, Or.inl rfl, Or.inl rfl, Or.inl rfl, trivial⟩) (by simp only [rZ_kind_l, if_pos h1, if_neg h2, if_neg h3, if_neg h4]) rfl
    · skip
      refine am_split (fun h5 => ?_) (fun h5 => ?_)
      · skip
        exact am_ri (S := sZ_kind) (by simp only [rZ_kind_l, if_neg h1, if_pos h5]; try rfl) rfl rfl rfl
      · skip
        refine am_call (eZ_fieldA n w _) ?_
        refine am_call (eZ_fieldB n w _) ?_
        refine am_call (eZ_fieldC n w _) ?_
        refine am_call (eZ_fits n (rZ_fieldA n w) (rZ_fieldB n w) (rZ_fieldC n w) _) ?_
        refine am_split (fun h6 => ?_) (fun h6 => ?_)
        · skip
          exact am_Tc (am_Tw (ih j c x w (n + (1 : Int32)) (ms_k (by first | exact Or.inl (by assumption) | exact Or.inr (by assumption)) hm)) ⟨Or.inr rfl, Or.inr rfl, Or.inr rfl, Or.inr rfl, Or.inl rfl, Or.inl rfl, Or.inl rfl, trivial⟩) (by simp only [rZ_kind_l, if_neg h1, if_neg h5, if_pos h6]) rfl
        · skip
          refine am_call (eZ_made n (rZ_fieldA n w) (rZ_fieldB n w) (rZ_fieldC n w) _) ?_
          refine am_split (fun h7 => ?_) (fun h7 => ?_)
          · skip
            exact am_ri (S := sZ_kind) (by simp only [rZ_kind_l, if_neg h1, if_neg h5, if_neg h6, if_pos h7]; try rfl) rfl rfl rfl
          · skip
            exact am_Tc (am_Tw (ih j c x w (n + (1 : Int32)) (ms_k (by first | exact Or.inl (by assumption) | exact Or.inr (by assumption)) hm)) ⟨Or.inr rfl, Or.inr rfl, Or.inr rfl, Or.inr rfl, Or.inl rfl, Or.inl rfl, Or.inl rfl, trivial⟩) (by simp only [rZ_kind_l, if_neg h1, if_neg h5, if_neg h6, if_neg h7]) rfl
noncomputable def rZ_kind (j : Nat → Int32) (c : Nat → Nat → Int32) (p : Int32) : Int32 := if (rZ_isLong p) = (0 : Int32) then (rZ_kind_l (((15 : Int32).toInt - Int32.toInt (13 : Int32)).toNat + 1) j c p (p &&& (65535 : Int32)) (13 : Int32)) else (rZ_kind_l (((15 : Int32).toInt - Int32.toInt (0 : Int32)).toNat + 1) j c p p (0 : Int32))
set_option maxHeartbeats 4000000 in
set_option maxRecDepth 100000 in
theorem eZ_kind (j : Nat → Int32) (c : Nat → Nat → Int32) (p : Int32) (i : Nat → Int32) (a : Nat → Nat → Int32) : am_Ev sZ_kind [.ref 30, .int p] (wX i a (wZ j c)) (some (.int (rZ_kind j c p))) (wX i a (wZ j c)) := by
  refine am_Ev_of cwZ_kind rfl rfl rfl (am_wt_T gdZ_kind [30] 400 ?_)
  refine am_call (eZ_isLong p _) ?_
  refine am_split (fun h1 => ?_) (fun h1 => ?_)
  · skip
    refine am_call (eZ_isLong p _) ?_
    refine am_split (fun _ => ?_) (fun hz => absurd h1 hz)
    exact am_Tc (am_Tw (tZ_kind_l i a (((15 : Int32).toInt - Int32.toInt (13 : Int32)).toNat + 1) j c p (p &&& (65535 : Int32)) (13 : Int32) (Nat.lt_add_one _) ) ⟨Or.inr rfl, Or.inr rfl, Or.inr rfl, Or.inr rfl, Or.inl rfl, Or.inl rfl, Or.inl rfl, trivial⟩) (by unfold rZ_kind; simp only [if_pos h1]; try rfl) rfl
  · skip
    refine am_call (eZ_isLong p _) ?_
    refine am_split (fun hz => absurd hz h1) (fun _ => ?_)
    exact am_Tc (am_Tw (tZ_kind_l i a (((15 : Int32).toInt - Int32.toInt (0 : Int32)).toNat + 1) j c p p (0 : Int32) (Nat.lt_add_one _) ) ⟨Or.inr rfl, Or.inr rfl, Or.inr rfl, Or.inr rfl, Or.inl rfl, Or.inl rfl, Or.inl rfl, trivial⟩) (by unfold rZ_kind; simp only [if_neg h1]; try rfl) rfl
noncomputable def rZ_isAimed_l : Nat → (Nat → Int32) → (Nat → Nat → Int32) → Int32 → Int32 → Int32 → Int32
  | 0, _, _, _, _, _ => 0
  | f + 1, j, c, t, x, n => if (j 0) ≤ n then x else if x = (0 : Int32) then if ((c 0) (Int32.toNatClampNeg n)) = (16 : Int32) then if ((c 2) (Int32.toNatClampNeg n)) = t then (rZ_isAimed_l f j c t (1 : Int32) (n + (1 : Int32))) else (rZ_isAimed_l f j c t (0 : Int32) (n + (1 : Int32))) else (rZ_isAimed_l f j c t (0 : Int32) (n + (1 : Int32))) else (rZ_isAimed_l f j c t (1 : Int32) (n + (1 : Int32)))
set_option maxHeartbeats 4000000 in
set_option maxRecDepth 100000 in
theorem tZ_isAimed_l (i : Nat → Int32) (a : Nat → Nat → Int32) : ∀ (f : Nat) (j : Nat → Int32) (c : Nat → Nat → Int32) (t x n : Int32), (Int32.toInt (j 0) - Int32.toInt n).toNat < f → 0 ≤ n.toInt ∧ (j 0).toInt ≤ 20 ∧ (x = 0 ∨ x = 1) → am_T sZ_isAimed (some (.int (rZ_isAimed_l f j c t x n))) (wX i a (wZ j c)) 4 [.ref 30, .int t, .int x, .int n] [] (wX i a (wZ j c)) 0 0 := by
  intro f
  induction f with
  | zero => intro j c t x n hm; exact absurd hm (Nat.not_lt_zero _)
  | succ f ih =>
    intro j c t x n hm hp
    refine am_wu_T gdZ_isAimed [4] 400 ?_
    refine am_split (fun h1 => ?_) (fun h1 => ?_)
    · skip
      exact am_ri (S := sZ_isAimed) (by simp only [rZ_isAimed_l, if_pos h1]; try rfl) rfl rfl (am_nz hp.2.2)
    · skip
      refine am_split (fun h2 => ?_) (fun h2 => ?_)
      · skip
        refine And.intro (by exact vp_nn hp.1 (by assumption) hp.2.1) ?_
        refine am_split (fun h3 => ?_) (fun h3 => ?_)
        · skip
          refine And.intro (by exact vp_nn hp.1 (by assumption) hp.2.1) ?_
          refine am_split (fun h4 => ?_) (fun h4 => ?_)
          · skip
            exact am_Tc (am_Tw (ih j c t (1 : Int32) (n + (1 : Int32)) (ms_up (by assumption) hm) ⟨nn_up hp.1 (by assumption), hp.2.1, by first | exact hp.2.2 | exact Or.inl rfl | exact Or.inr rfl⟩) ⟨Or.inr rfl, Or.inr rfl, Or.inr rfl, Or.inr rfl, trivial⟩) (by simp only [rZ_isAimed_l, if_neg h1, if_pos h2, if_pos h3, if_pos h4]) rfl
          · skip
            exact am_Tc (am_Tw (ih j c t (0 : Int32) (n + (1 : Int32)) (ms_up (by assumption) hm) ⟨nn_up hp.1 (by assumption), hp.2.1, by first | exact hp.2.2 | exact Or.inl rfl | exact Or.inr rfl⟩) ⟨Or.inr rfl, Or.inr rfl, Or.inr rfl, Or.inr rfl, trivial⟩) (by simp only [rZ_isAimed_l, if_neg h1, if_pos h2, if_pos h3, if_neg h4]) rfl
        · skip
          exact am_Tc (am_Tw (ih j c t (0 : Int32) (n + (1 : Int32)) (ms_up (by assumption) hm) ⟨nn_up hp.1 (by assumption), hp.2.1, by first | exact hp.2.2 | exact Or.inl rfl | exact Or.inr rfl⟩) ⟨Or.inr rfl, Or.inr rfl, Or.inr rfl, Or.inr rfl, trivial⟩) (by simp only [rZ_isAimed_l, if_neg h1, if_pos h2, if_neg h3]) rfl
      · skip
        exact am_Tc (am_Tw (ih j c t (1 : Int32) (n + (1 : Int32)) (ms_up (by assumption) hm) ⟨nn_up hp.1 (by assumption), hp.2.1, by first | exact hp.2.2 | exact Or.inl rfl | exact Or.inr rfl⟩) ⟨Or.inr rfl, Or.inr rfl, Or.inr rfl, Or.inr rfl, trivial⟩) (by simp only [rZ_isAimed_l, if_neg h1, if_neg h2]) rfl
noncomputable def rZ_isAimed (j : Nat → Int32) (c : Nat → Nat → Int32) (p : Int32) : Int32 := (rZ_isAimed_l ((Int32.toInt (j 0) - Int32.toInt (0 : Int32)).toNat + 1) j c p (0 : Int32) (0 : Int32))
set_option maxHeartbeats 4000000 in
set_option maxRecDepth 100000 in
theorem eZ_isAimed (j : Nat → Int32) (c : Nat → Nat → Int32) (p : Int32) (i : Nat → Int32) (a : Nat → Nat → Int32) (hl : (j 0).toInt ≤ 20) : am_Ev sZ_isAimed [.ref 30, .int p] (wX i a (wZ j c)) (some (.int (rZ_isAimed j c p))) (wX i a (wZ j c)) := by
  refine am_Ev_of cwZ_isAimed rfl rfl rfl (am_wt_T gdZ_isAimed [4] 400 ?_)
  exact am_Tc (am_Tw (tZ_isAimed_l i a ((Int32.toInt (j 0) - Int32.toInt (0 : Int32)).toNat + 1) j c p (0 : Int32) (0 : Int32) (Nat.lt_add_one _) ⟨by decide, hl, Or.inl rfl⟩) ⟨Or.inr rfl, Or.inr rfl, Or.inr rfl, Or.inr rfl, trivial⟩) (by unfold rZ_isAimed; rfl) rfl
noncomputable def rZ_layOut_l : Nat → (Nat → Int32) → (Nat → Nat → Int32) → Int32 → Int32 → Int32
  | 0, _, _, _, _ => 0
  | f + 1, j, c, t, n => if (j 0) < n then ((t + (16 : Int32)) - (t - t / (16 : Int32) * (16 : Int32))) else if (rZ_isAimed j c n) = (0 : Int32) then if (j 0) ≤ n then (rZ_layOut_l f j (sA c (upd (c 10) (Int32.toNatClampNeg n) (t + (0 : Int32))) 10) (t + (0 : Int32)) (n + (1 : Int32))) else if (rZ_ends j (sA c (upd (c 10) (Int32.toNatClampNeg n) (t + (0 : Int32))) 10) n) = (0 : Int32) then if (((t + (0 : Int32)) - (t + (0 : Int32)) / (16 : Int32) * (16 : Int32)) + (rZ_sizeOf j (sA c (upd (c 10) (Int32.toNatClampNeg n) (t + (0 : Int32))) 10) n)) ≤ (16 : Int32) then (rZ_layOut_l f j (sA (sA c (upd (c 10) (Int32.toNatClampNeg n) (t + (0 : Int32))) 10) (upd (c 9) (Int32.toNatClampNeg n) ((t + (0 : Int32)) + (0 : Int32))) 9) (((t + (0 : Int32)) + (0 : Int32)) + (rZ_sizeOf j (sA c (upd (c 10) (Int32.toNatClampNeg n) (t + (0 : Int32))) 10) n)) (n + (1 : Int32))) else (rZ_layOut_l f j (sA (sA c (upd (c 10) (Int32.toNatClampNeg n) (t + (0 : Int32))) 10) (upd (c 9) (Int32.toNatClampNeg n) ((t + (0 : Int32)) + (rZ_rest (t + (0 : Int32))))) 9) (((t + (0 : Int32)) + (rZ_rest (t + (0 : Int32)))) + (rZ_sizeOf j (sA c (upd (c 10) (Int32.toNatClampNeg n) (t + (0 : Int32))) 10) n)) (n + (1 : Int32))) else (rZ_layOut_l f j (sA (sA c (upd (c 10) (Int32.toNatClampNeg n) (t + (0 : Int32))) 10) (upd (c 9) (Int32.toNatClampNeg n) ((t + (0 : Int32)) + (rZ_rest ((t + (0 : Int32)) + (rZ_sizeOf j (sA c (upd (c 10) (Int32.toNatClampNeg n) (t + (0 : Int32))) 10) n))))) 9) (((t + (0 : Int32)) + (rZ_rest ((t + (0 : Int32)) + (rZ_sizeOf j (sA c (upd (c 10) (Int32.toNatClampNeg n) (t + (0 : Int32))) 10) n)))) + (rZ_sizeOf j (sA c (upd (c 10) (Int32.toNatClampNeg n) (t + (0 : Int32))) 10) n)) (n + (1 : Int32))) else if (j 0) ≤ n then (rZ_layOut_l f j (sA c (upd (c 10) (Int32.toNatClampNeg n) (t + (rZ_rest t))) 10) (t + (rZ_rest t)) (n + (1 : Int32))) else if (rZ_ends j (sA c (upd (c 10) (Int32.toNatClampNeg n) (t + (rZ_rest t))) 10) n) = (0 : Int32) then if (((t + (rZ_rest t)) - (t + (rZ_rest t)) / (16 : Int32) * (16 : Int32)) + (rZ_sizeOf j (sA c (upd (c 10) (Int32.toNatClampNeg n) (t + (rZ_rest t))) 10) n)) ≤ (16 : Int32) then (rZ_layOut_l f j (sA (sA c (upd (c 10) (Int32.toNatClampNeg n) (t + (rZ_rest t))) 10) (upd (c 9) (Int32.toNatClampNeg n) ((t + (rZ_rest t)) + (0 : Int32))) 9) (((t + (rZ_rest t)) + (0 : Int32)) + (rZ_sizeOf j (sA c (upd (c 10) (Int32.toNatClampNeg n) (t + (rZ_rest t))) 10) n)) (n + (1 : Int32))) else (rZ_layOut_l f j (sA (sA c (upd (c 10) (Int32.toNatClampNeg n) (t + (rZ_rest t))) 10) (upd (c 9) (Int32.toNatClampNeg n) ((t + (rZ_rest t)) + (rZ_rest (t + (rZ_rest t))))) 9) (((t + (rZ_rest t)) + (rZ_rest (t + (rZ_rest t)))) + (rZ_sizeOf j (sA c (upd (c 10) (Int32.toNatClampNeg n) (t + (rZ_rest t))) 10) n)) (n + (1 : Int32))) else (rZ_layOut_l f j (sA (sA c (upd (c 10) (Int32.toNatClampNeg n) (t + (rZ_rest t))) 10) (upd (c 9) (Int32.toNatClampNeg n) ((t + (rZ_rest t)) + (rZ_rest ((t + (rZ_rest t)) + (rZ_sizeOf j (sA c (upd (c 10) (Int32.toNatClampNeg n) (t + (rZ_rest t))) 10) n))))) 9) (((t + (rZ_rest t)) + (rZ_rest ((t + (rZ_rest t)) + (rZ_sizeOf j (sA c (upd (c 10) (Int32.toNatClampNeg n) (t + (rZ_rest t))) 10) n)))) + (rZ_sizeOf j (sA c (upd (c 10) (Int32.toNatClampNeg n) (t + (rZ_rest t))) 10) n)) (n + (1 : Int32)))
noncomputable def aZ_layOut_l : Nat → (Nat → Int32) → (Nat → Nat → Int32) → Int32 → Int32 → Nat → Nat → Int32
  | 0, _, c, _, _ => c
  | f + 1, j, c, t, n => if (j 0) < n then c else if (rZ_isAimed j c n) = (0 : Int32) then if (j 0) ≤ n then (aZ_layOut_l f j (sA c (upd (c 10) (Int32.toNatClampNeg n) (t + (0 : Int32))) 10) (t + (0 : Int32)) (n + (1 : Int32))) else if (rZ_ends j (sA c (upd (c 10) (Int32.toNatClampNeg n) (t + (0 : Int32))) 10) n) = (0 : Int32) then if (((t + (0 : Int32)) - (t + (0 : Int32)) / (16 : Int32) * (16 : Int32)) + (rZ_sizeOf j (sA c (upd (c 10) (Int32.toNatClampNeg n) (t + (0 : Int32))) 10) n)) ≤ (16 : Int32) then (aZ_layOut_l f j (sA (sA c (upd (c 10) (Int32.toNatClampNeg n) (t + (0 : Int32))) 10) (upd (c 9) (Int32.toNatClampNeg n) ((t + (0 : Int32)) + (0 : Int32))) 9) (((t + (0 : Int32)) + (0 : Int32)) + (rZ_sizeOf j (sA c (upd (c 10) (Int32.toNatClampNeg n) (t + (0 : Int32))) 10) n)) (n + (1 : Int32))) else (aZ_layOut_l f j (sA (sA c (upd (c 10) (Int32.toNatClampNeg n) (t + (0 : Int32))) 10) (upd (c 9) (Int32.toNatClampNeg n) ((t + (0 : Int32)) + (rZ_rest (t + (0 : Int32))))) 9) (((t + (0 : Int32)) + (rZ_rest (t + (0 : Int32)))) + (rZ_sizeOf j (sA c (upd (c 10) (Int32.toNatClampNeg n) (t + (0 : Int32))) 10) n)) (n + (1 : Int32))) else (aZ_layOut_l f j (sA (sA c (upd (c 10) (Int32.toNatClampNeg n) (t + (0 : Int32))) 10) (upd (c 9) (Int32.toNatClampNeg n) ((t + (0 : Int32)) + (rZ_rest ((t + (0 : Int32)) + (rZ_sizeOf j (sA c (upd (c 10) (Int32.toNatClampNeg n) (t + (0 : Int32))) 10) n))))) 9) (((t + (0 : Int32)) + (rZ_rest ((t + (0 : Int32)) + (rZ_sizeOf j (sA c (upd (c 10) (Int32.toNatClampNeg n) (t + (0 : Int32))) 10) n)))) + (rZ_sizeOf j (sA c (upd (c 10) (Int32.toNatClampNeg n) (t + (0 : Int32))) 10) n)) (n + (1 : Int32))) else if (j 0) ≤ n then (aZ_layOut_l f j (sA c (upd (c 10) (Int32.toNatClampNeg n) (t + (rZ_rest t))) 10) (t + (rZ_rest t)) (n + (1 : Int32))) else if (rZ_ends j (sA c (upd (c 10) (Int32.toNatClampNeg n) (t + (rZ_rest t))) 10) n) = (0 : Int32) then if (((t + (rZ_rest t)) - (t + (rZ_rest t)) / (16 : Int32) * (16 : Int32)) + (rZ_sizeOf j (sA c (upd (c 10) (Int32.toNatClampNeg n) (t + (rZ_rest t))) 10) n)) ≤ (16 : Int32) then (aZ_layOut_l f j (sA (sA c (upd (c 10) (Int32.toNatClampNeg n) (t + (rZ_rest t))) 10) (upd (c 9) (Int32.toNatClampNeg n) ((t + (rZ_rest t)) + (0 : Int32))) 9) (((t + (rZ_rest t)) + (0 : Int32)) + (rZ_sizeOf j (sA c (upd (c 10) (Int32.toNatClampNeg n) (t + (rZ_rest t))) 10) n)) (n + (1 : Int32))) else (aZ_layOut_l f j (sA (sA c (upd (c 10) (Int32.toNatClampNeg n) (t + (rZ_rest t))) 10) (upd (c 9) (Int32.toNatClampNeg n) ((t + (rZ_rest t)) + (rZ_rest (t + (rZ_rest t))))) 9) (((t + (rZ_rest t)) + (rZ_rest (t + (rZ_rest t)))) + (rZ_sizeOf j (sA c (upd (c 10) (Int32.toNatClampNeg n) (t + (rZ_rest t))) 10) n)) (n + (1 : Int32))) else (aZ_layOut_l f j (sA (sA c (upd (c 10) (Int32.toNatClampNeg n) (t + (rZ_rest t))) 10) (upd (c 9) (Int32.toNatClampNeg n) ((t + (rZ_rest t)) + (rZ_rest ((t + (rZ_rest t)) + (rZ_sizeOf j (sA c (upd (c 10) (Int32.toNatClampNeg n) (t + (rZ_rest t))) 10) n))))) 9) (((t + (rZ_rest t)) + (rZ_rest ((t + (rZ_rest t)) + (rZ_sizeOf j (sA c (upd (c 10) (Int32.toNatClampNeg n) (t + (rZ_rest t))) 10) n)))) + (rZ_sizeOf j (sA c (upd (c 10) (Int32.toNatClampNeg n) (t + (rZ_rest t))) 10) n)) (n + (1 : Int32)))
set_option maxHeartbeats 4000000 in
set_option maxRecDepth 100000 in
theorem tZ_layOut_l (i : Nat → Int32) (a : Nat → Nat → Int32) : ∀ (f : Nat) (j : Nat → Int32) (c : Nat → Nat → Int32) (t n : Int32), (Int32.toInt (j 0) + 1 - Int32.toInt n).toNat < f → 0 ≤ n.toInt ∧ (j 0).toInt ≤ 20 → am_T sZ_layOut (some (.int (rZ_layOut_l f j c t n))) (wX i a (wZ j (aZ_layOut_l f j c t n))) 5 [.ref 30, .int t, .int n, .retAddr 0] [] (wX i a (wZ j c)) 0 0 := by
  intro f
  induction f with
  | zero => intro j c t n hm; exact absurd hm (Nat.not_lt_zero _)
  | succ f ih =>
    intro j c t n hm hp
    refine am_wu_T gdZ_layOut [5] 400 ?_
    refine am_split (fun h1 => ?_) (fun h1 => ?_)
    · skip
      exact am_ri (S := sZ_layOut) (by simp only [rZ_layOut_l, if_pos h1]; try rfl) (by simp only [aZ_layOut_l, if_pos h1]; try rfl) rfl rfl
    · skip
      refine am_call (eZ_isAimed j c n i a  (by first | exact hp.2 | exact vp_nn hp.1 (by assumption) hp.2)) ?_
      refine am_split (fun h2 => ?_) (fun h2 => ?_)
      · skip
        refine And.intro (by first | exact vp_nn hp.1 (by assumption) hp.2 | (have h9 := nlt (y := n) (by assumption); rw [vp_in_iff]; omega)) ?_
        refine am_split (fun h3 => ?_) (fun h3 => ?_)
        · skip
          exact am_Tc (am_Tw (ih j (sA c (upd (c 10) (Int32.toNatClampNeg n) (t + (0 : Int32))) 10) (t + (0 : Int32)) (n + (1 : Int32)) (ms_ule (by assumption) (by omega) hm) ⟨by have h0 := hp.1; have h9 := hp.2; have h8 := nlt (y := n) (by assumption); rw [add_i (by rw [show (1 : Int32).toInt = 1 from rfl]; omega) (by rw [show (1 : Int32).toInt = 1 from rfl]; omega), show (1 : Int32).toInt = 1 from rfl]; omega, hp.2⟩) ⟨Or.inr rfl, Or.inr rfl, Or.inr rfl, Or.inl rfl, trivial⟩) (by simp only [rZ_layOut_l, if_neg h1, if_pos h2, if_pos h3]) (by simp only [aZ_layOut_l, if_neg h1, if_pos h2, if_pos h3])
        · skip
          refine am_call (eZ_sizeOf j (sA c (upd (c 10) (Int32.toNatClampNeg n) (t + (0 : Int32))) 10) n i a  (by first | exact hp.2 | exact vp_nn hp.1 (by assumption) hp.2)) ?_
          refine am_call (eZ_ends j (sA c (upd (c 10) (Int32.toNatClampNeg n) (t + (0 : Int32))) 10) n i a  (by first | exact hp.2 | exact vp_nn hp.1 (by assumption) hp.2)) ?_
          refine am_split (fun h4 => ?_) (fun h4 => ?_)
          · skip
            refine am_split (fun h5 => ?_) (fun h5 => ?_)
            · skip
              refine And.intro (by first | exact vp_nn hp.1 (by assumption) hp.2 | (have h9 := nlt (y := n) (by assumption); rw [vp_in_iff]; omega)) ?_
              exact am_Tc (am_Tw (ih j (sA (sA c (upd (c 10) (Int32.toNatClampNeg n) (t + (0 : Int32))) 10) (upd (c 9) (Int32.toNatClampNeg n) ((t + (0 : Int32)) + (0 : Int32))) 9) (((t + (0 : Int32)) + (0 : Int32)) + (rZ_sizeOf j (sA c (upd (c 10) (Int32.toNatClampNeg n) (t + (0 : Int32))) 10) n)) (n + (1 : Int32)) (ms_ule (by assumption) (by omega) hm) ⟨by have h0 := hp.1; have h9 := hp.2; have h8 := nlt (y := n) (by assumption); rw [add_i (by rw [show (1 : Int32).toInt = 1 from rfl]; omega) (by rw [show (1 : Int32).toInt = 1 from rfl]; omega), show (1 : Int32).toInt = 1 from rfl]; omega, hp.2⟩) ⟨Or.inr rfl, Or.inr rfl, Or.inr rfl, Or.inl rfl, trivial⟩) (by simp only [rZ_layOut_l, if_neg h1, if_pos h2, if_neg h3, if_pos h4, if_pos h5]) (by simp only [aZ_layOut_l, if_neg h1, if_pos h2, if_neg h3, if_pos h4, if_pos h5])
            · skip
              refine am_call (eZ_rest (t + (0 : Int32)) _) ?_
              refine And.intro (by first | exact vp_nn hp.1 (by assumption) hp.2 | (have h9 := nlt (y := n) (by assumption); rw [vp_in_iff]; omega)) ?_
              exact am_Tc (am_Tw (ih j (sA (sA c (upd (c 10) (Int32.toNatClampNeg n) (t + (0 : Int32))) 10) (upd (c 9) (Int32.toNatClampNeg n) ((t + (0 : Int32)) + (rZ_rest (t + (0 : Int32))))) 9) (((t + (0 : Int32)) + (rZ_rest (t + (0 : Int32)))) + (rZ_sizeOf j (sA c (upd (c 10) (Int32.toNatClampNeg n) (t + (0 : Int32))) 10) n)) (n + (1 : Int32)) (ms_ule (by assumption) (by omega) hm) ⟨by have h0 := hp.1; have h9 := hp.2; have h8 := nlt (y := n) (by assumption); rw [add_i (by rw [show (1 : Int32).toInt = 1 from rfl]; omega) (by rw [show (1 : Int32).toInt = 1 from rfl]; omega), show (1 : Int32).toInt = 1 from rfl]; omega, hp.2⟩) ⟨Or.inr rfl, Or.inr rfl, Or.inr rfl, Or.inl rfl, trivial⟩) (by simp only [rZ_layOut_l, if_neg h1, if_pos h2, if_neg h3, if_pos h4, if_neg h5]) (by simp only [aZ_layOut_l, if_neg h1, if_pos h2, if_neg h3, if_pos h4, if_neg h5])
          · skip
            refine am_call (eZ_rest ((t + (0 : Int32)) + (rZ_sizeOf j (sA c (upd (c 10) (Int32.toNatClampNeg n) (t + (0 : Int32))) 10) n)) _) ?_
            refine And.intro (by first | exact vp_nn hp.1 (by assumption) hp.2 | (have h9 := nlt (y := n) (by assumption); rw [vp_in_iff]; omega)) ?_
            exact am_Tc (am_Tw (ih j (sA (sA c (upd (c 10) (Int32.toNatClampNeg n) (t + (0 : Int32))) 10) (upd (c 9) (Int32.toNatClampNeg n) ((t + (0 : Int32)) + (rZ_rest ((t + (0 : Int32)) + (rZ_sizeOf j (sA c (upd (c 10) (Int32.toNatClampNeg n) (t + (0 : Int32))) 10) n))))) 9) (((t + (0 : Int32)) + (rZ_rest ((t + (0 : Int32)) + (rZ_sizeOf j (sA c (upd (c 10) (Int32.toNatClampNeg n) (t + (0 : Int32))) 10) n)))) + (rZ_sizeOf j (sA c (upd (c 10) (Int32.toNatClampNeg n) (t + (0 : Int32))) 10) n)) (n + (1 : Int32)) (ms_ule (by assumption) (by omega) hm) ⟨by have h0 := hp.1; have h9 := hp.2; have h8 := nlt (y := n) (by assumption); rw [add_i (by rw [show (1 : Int32).toInt = 1 from rfl]; omega) (by rw [show (1 : Int32).toInt = 1 from rfl]; omega), show (1 : Int32).toInt = 1 from rfl]; omega, hp.2⟩) ⟨Or.inr rfl, Or.inr rfl, Or.inr rfl, Or.inl rfl, trivial⟩) (by simp only [rZ_layOut_l, if_neg h1, if_pos h2, if_neg h3, if_neg h4]) (by simp only [aZ_layOut_l, if_neg h1, if_pos h2, if_neg h3, if_neg h4])
      · skip
        refine am_call (eZ_rest t _) ?_
        refine And.intro (by first | exact vp_nn hp.1 (by assumption) hp.2 | (have h9 := nlt (y := n) (by assumption); rw [vp_in_iff]; omega)) ?_
        refine am_split (fun h6 => ?_) (fun h6 => ?_)
        · skip
          exact am_Tc (am_Tw (ih j (sA c (upd (c 10) (Int32.toNatClampNeg n) (t + (rZ_rest t))) 10) (t + (rZ_rest t)) (n + (1 : Int32)) (ms_ule (by assumption) (by omega) hm) ⟨by have h0 := hp.1; have h9 := hp.2; have h8 := nlt (y := n) (by assumption); rw [add_i (by rw [show (1 : Int32).toInt = 1 from rfl]; omega) (by rw [show (1 : Int32).toInt = 1 from rfl]; omega), show (1 : Int32).toInt = 1 from rfl]; omega, hp.2⟩) ⟨Or.inr rfl, Or.inr rfl, Or.inr rfl, Or.inl rfl, trivial⟩) (by simp only [rZ_layOut_l, if_neg h1, if_neg h2, if_pos h6]) (by simp only [aZ_layOut_l, if_neg h1, if_neg h2, if_pos h6])
        · skip
          refine am_call (eZ_sizeOf j (sA c (upd (c 10) (Int32.toNatClampNeg n) (t + (rZ_rest t))) 10) n i a  (by first | exact hp.2 | exact vp_nn hp.1 (by assumption) hp.2)) ?_
          refine am_call (eZ_ends j (sA c (upd (c 10) (Int32.toNatClampNeg n) (t + (rZ_rest t))) 10) n i a  (by first | exact hp.2 | exact vp_nn hp.1 (by assumption) hp.2)) ?_
          refine am_split (fun h7 => ?_) (fun h7 => ?_)
          · skip
            refine am_split (fun h8 => ?_) (fun h8 => ?_)
            · skip
              refine And.intro (by first | exact vp_nn hp.1 (by assumption) hp.2 | (have h9 := nlt (y := n) (by assumption); rw [vp_in_iff]; omega)) ?_
              exact am_Tc (am_Tw (ih j (sA (sA c (upd (c 10) (Int32.toNatClampNeg n) (t + (rZ_rest t))) 10) (upd (c 9) (Int32.toNatClampNeg n) ((t + (rZ_rest t)) + (0 : Int32))) 9) (((t + (rZ_rest t)) + (0 : Int32)) + (rZ_sizeOf j (sA c (upd (c 10) (Int32.toNatClampNeg n) (t + (rZ_rest t))) 10) n)) (n + (1 : Int32)) (ms_ule (by assumption) (by omega) hm) ⟨by have h0 := hp.1; have h9 := hp.2; have h8 := nlt (y := n) (by assumption); rw [add_i (by rw [show (1 : Int32).toInt = 1 from rfl]; omega) (by rw [show (1 : Int32).toInt = 1 from rfl]; omega), show (1 : Int32).toInt = 1 from rfl]; omega, hp.2⟩) ⟨Or.inr rfl, Or.inr rfl, Or.inr rfl, Or.inl rfl, trivial⟩) (by simp only [rZ_layOut_l, if_neg h1, if_neg h2, if_neg h6, if_pos h7, if_pos h8]) (by simp only [aZ_layOut_l, if_neg h1, if_neg h2, if_neg h6, if_pos h7, if_pos h8])
            · skip
              refine am_call (eZ_rest (t + (rZ_rest t)) _) ?_
              refine And.intro (by first | exact vp_nn hp.1 (by assumption) hp.2 | (have h9 := nlt (y := n) (by assumption); rw [vp_in_iff]; omega)) ?_
              exact am_Tc (am_Tw (ih j (sA (sA c (upd (c 10) (Int32.toNatClampNeg n) (t + (rZ_rest t))) 10) (upd (c 9) (Int32.toNatClampNeg n) ((t + (rZ_rest t)) + (rZ_rest (t + (rZ_rest t))))) 9) (((t + (rZ_rest t)) + (rZ_rest (t + (rZ_rest t)))) + (rZ_sizeOf j (sA c (upd (c 10) (Int32.toNatClampNeg n) (t + (rZ_rest t))) 10) n)) (n + (1 : Int32)) (ms_ule (by assumption) (by omega) hm) ⟨by have h0 := hp.1; have h9 := hp.2; have h8 := nlt (y := n) (by assumption); rw [add_i (by rw [show (1 : Int32).toInt = 1 from rfl]; omega) (by rw [show (1 : Int32).toInt = 1 from rfl]; omega), show (1 : Int32).toInt = 1 from rfl]; omega, hp.2⟩) ⟨Or.inr rfl, Or.inr rfl, Or.inr rfl, Or.inl rfl, trivial⟩) (by simp only [rZ_layOut_l, if_neg h1, if_neg h2, if_neg h6, if_pos h7, if_neg h8]) (by simp only [aZ_layOut_l, if_neg h1, if_neg h2, if_neg h6, if_pos h7, if_neg h8])
          · skip
            refine am_call (eZ_rest ((t + (rZ_rest t)) + (rZ_sizeOf j (sA c (upd (c 10) (Int32.toNatClampNeg n) (t + (rZ_rest t))) 10) n)) _) ?_
            refine And.intro (by first | exact vp_nn hp.1 (by assumption) hp.2 | (have h9 := nlt (y := n) (by assumption); rw [vp_in_iff]; omega)) ?_
            exact am_Tc (am_Tw (ih j (sA (sA c (upd (c 10) (Int32.toNatClampNeg n) (t + (rZ_rest t))) 10) (upd (c 9) (Int32.toNatClampNeg n) ((t + (rZ_rest t)) + (rZ_rest ((t + (rZ_rest t)) + (rZ_sizeOf j (sA c (upd (c 10) (Int32.toNatClampNeg n) (t + (rZ_rest t))) 10) n))))) 9) (((t + (rZ_rest t)) + (rZ_rest ((t + (rZ_rest t)) + (rZ_sizeOf j (sA c (upd (c 10) (Int32.toNatClampNeg n) (t + (rZ_rest t))) 10) n)))) + (rZ_sizeOf j (sA c (upd (c 10) (Int32.toNatClampNeg n) (t + (rZ_rest t))) 10) n)) (n + (1 : Int32)) (ms_ule (by assumption) (by omega) hm) ⟨by have h0 := hp.1; have h9 := hp.2; have h8 := nlt (y := n) (by assumption); rw [add_i (by rw [show (1 : Int32).toInt = 1 from rfl]; omega) (by rw [show (1 : Int32).toInt = 1 from rfl]; omega), show (1 : Int32).toInt = 1 from rfl]; omega, hp.2⟩) ⟨Or.inr rfl, Or.inr rfl, Or.inr rfl, Or.inl rfl, trivial⟩) (by simp only [rZ_layOut_l, if_neg h1, if_neg h2, if_neg h6, if_neg h7]) (by simp only [aZ_layOut_l, if_neg h1, if_neg h2, if_neg h6, if_neg h7])
noncomputable def rZ_layOut (j : Nat → Int32) (c : Nat → Nat → Int32) : Int32 := (rZ_layOut_l ((Int32.toInt (j 0) + 1 - Int32.toInt (0 : Int32)).toNat + 1) j c (48 : Int32) (0 : Int32))
noncomputable def aZ_layOut (j : Nat → Int32) (c : Nat → Nat → Int32) : Nat → Nat → Int32 := (aZ_layOut_l ((Int32.toInt (j 0) + 1 - Int32.toInt (0 : Int32)).toNat + 1) j c (48 : Int32) (0 : Int32))
set_option maxHeartbeats 4000000 in
set_option maxRecDepth 100000 in
theorem eZ_layOut (j : Nat → Int32) (c : Nat → Nat → Int32) (i : Nat → Int32) (a : Nat → Nat → Int32) (hl : (j 0).toInt ≤ 20) : am_Ev sZ_layOut [.ref 30] (wX i a (wZ j c)) (some (.int (rZ_layOut j c ))) (wX i a (wZ j (aZ_layOut j c ))) := by
  refine am_Ev_of cwZ_layOut rfl rfl rfl (am_wt_T gdZ_layOut [5] 400 ?_)
  exact am_Tc (am_Tw (tZ_layOut_l i a ((Int32.toInt (j 0) + 1 - Int32.toInt (0 : Int32)).toNat + 1) j c (48 : Int32) (0 : Int32) (Nat.lt_add_one _) ⟨by decide, hl⟩) ⟨Or.inr rfl, Or.inr rfl, Or.inr rfl, Or.inl rfl, trivial⟩) (by unfold rZ_layOut; rfl) (by unfold aZ_layOut; rfl)

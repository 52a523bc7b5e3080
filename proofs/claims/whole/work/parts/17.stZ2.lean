theorem sub_i {x y : Int32} (h1 : -2147483648 ≤ x.toInt - y.toInt) (h2 : x.toInt - y.toInt < 2147483648) : (x - y).toInt = x.toInt - y.toInt := by
  rw [Int32.toInt_sub]
  exact Int.bmod_eq_of_le (by simpa using h1) (by simpa using h2)
theorem div4_i {x : Int32} (h0 : 0 ≤ x.toInt) : (x / 4).toInt = x.toInt / 4 := by
  rw [div_i x 4 (by decide), show (4 : Int32).toInt = 4 from rfl, Int.tdiv_eq_ediv_of_nonneg h0]
theorem in_mv0 {x : Int32} (h0 : ¬ x < 0) (h1 : ¬ (63 : Int32) < x) : vp_in (((16 : Int32) * (0 : Int32)) + x / 4) 32 := by
  rw [lt_i] at h0 h1
  have e0 : (0 : Int32).toInt = 0 := rfl
  have e1 : (63 : Int32).toInt = 63 := rfl
  have e2 : ((16 : Int32) * (0 : Int32)).toInt = 0 := rfl
  have h3 := div4_i (x := x) (by omega)
  exact in_off (by omega) (by omega) (by omega) (by decide)
theorem in_mv1 {x : Int32} (h0 : ¬ x < 0) (h1 : ¬ (63 : Int32) < x) : vp_in (((16 : Int32) * (1 : Int32)) + x / 4) 32 := by
  rw [lt_i] at h0 h1
  have e0 : (0 : Int32).toInt = 0 := rfl
  have e1 : (63 : Int32).toInt = 63 := rfl
  have e2 : ((16 : Int32) * (1 : Int32)).toInt = 16 := rfl
  have h3 := div4_i (x := x) (by omega)
  exact in_off (by omega) (by omega) (by omega) (by decide)
theorem outside_i {x l h : Int32} : rZ_outside x l h = 0 ↔ (l.toInt ≤ x.toInt ∧ x.toInt ≤ h.toInt) := by
  unfold rZ_outside
  simp only [lt_i, le_i]
  split
  · simp; omega
  · split
    · simp; omega
    · simp; omega
theorem in_w0 {x : Int32} (h : rZ_outside x 0 15 = 0) : vp_in (((16 : Int32) * (0 : Int32)) + x) 32 := by
  rw [outside_i] at h
  have e0 : (0 : Int32).toInt = 0 := rfl
  have e1 : (15 : Int32).toInt = 15 := rfl
  have e2 : ((16 : Int32) * (0 : Int32)).toInt = 0 := rfl
  exact in_off (by omega) (by omega) (by omega) (by decide)
theorem in_w1 {x : Int32} (h : rZ_outside x 0 15 = 0) : vp_in (((16 : Int32) * (1 : Int32)) + x) 32 := by
  rw [outside_i] at h
  have e0 : (0 : Int32).toInt = 0 := rfl
  have e1 : (15 : Int32).toInt = 15 := rfl
  have e2 : ((16 : Int32) * (1 : Int32)).toInt = 16 := rfl
  exact in_off (by omega) (by omega) (by omega) (by decide)
theorem in_by {x s : Int32} (hx : 0 ≤ x.toInt) (hs : s.toInt ≤ 256) (h : ¬ s ≤ x) : vp_in x 256 := by
  rw [le_i] at h
  rw [vp_in_iff]
  omega
theorem nn_add {x k : Int32} (h : 0 ≤ x.toInt) (h2 : x.toInt ≤ 1000) (hk : 0 ≤ k.toInt) (hk2 : k.toInt ≤ 1000) : 0 ≤ (x + k).toInt := by
  rw [add_i (by omega) (by omega)]
  omega
noncomputable def rZ_moved0 (j : Nat → Int32) (c : Nat → Nat → Int32) (q r s t : Int32) : Int32 := if (((rZ_get0 j c s) + t) - (4096 : Int32)) < (0 : Int32) then (0 : Int32) else if (63 : Int32) < (((rZ_get0 j c s) + t) - (4096 : Int32)) then (0 : Int32) else if ((((rZ_get0 j c s) + t) - (4096 : Int32)) - (((rZ_get0 j c s) + t) - (4096 : Int32)) / (4 : Int32) * (4 : Int32)) = (0 : Int32) then if q = (6 : Int32) then (1 : Int32) else (1 : Int32) else (0 : Int32)
noncomputable def aZ_moved0 (j : Nat → Int32) (c : Nat → Nat → Int32) (q r s t : Int32) : Nat → Nat → Int32 := if (((rZ_get0 j c s) + t) - (4096 : Int32)) < (0 : Int32) then c else if (63 : Int32) < (((rZ_get0 j c s) + t) - (4096 : Int32)) then c else if ((((rZ_get0 j c s) + t) - (4096 : Int32)) - (((rZ_get0 j c s) + t) - (4096 : Int32)) / (4 : Int32) * (4 : Int32)) = (0 : Int32) then if q = (6 : Int32) then (aZ_set0 j c r ((c 15) (Int32.toNatClampNeg (((16 : Int32) * (0 : Int32)) + ((((rZ_get0 j c s) + t) - (4096 : Int32)) / (4 : Int32)))))) else (sA c (upd (c 15) (Int32.toNatClampNeg (((16 : Int32) * (0 : Int32)) + ((((rZ_get0 j c s) + t) - (4096 : Int32)) / (4 : Int32)))) (rZ_get0 j c r)) 15) else c
set_option maxHeartbeats 4000000 in
set_option maxRecDepth 100000 in
theorem eZ_moved0 (j : Nat → Int32) (c : Nat → Nat → Int32) (q r s t : Int32) (i : Nat → Int32) (a : Nat → Nat → Int32) (ha : inR r) (hb : inR s) : am_Ev sZ_moved [.ref 30, .int (0 : Int32), .int q, .int r, .int s, .int t] (wX i a (wZ j c)) (some (.int (rZ_moved0 j c q r s t))) (wX i a (wZ j (aZ_moved0 j c q r s t))) := by
  refine am_Ev_of cwZ_moved rfl rfl rfl (am_wp_T gdZ_moved 400 ?_)
  refine am_call (eZ_get0 j c s i a  (by assumption)) ?_
  refine am_split (fun h1 => ?_) (fun h1 => ?_)
  · skip
    exact am_ri (S := sZ_moved) (by unfold rZ_moved0; simp only [if_pos h1]; try rfl) (by unfold aZ_moved0; simp only [if_pos h1]; try rfl) rfl rfl
  · skip
    refine am_split (fun h2 => ?_) (fun h2 => ?_)
    · skip
      exact am_ri (S := sZ_moved) (by unfold rZ_moved0; simp only [if_neg h1, if_pos h2]; try rfl) (by unfold aZ_moved0; simp only [if_neg h1, if_pos h2]; try rfl) rfl rfl
    · skip
      refine am_split (fun h3 => ?_) (fun h3 => ?_)
      · skip
        refine am_split (fun h4 => ?_) (fun h4 => ?_)
        · skip
          refine And.intro (by exact in_mv0 (by assumption) (by assumption)) ?_
          refine am_call (eZ_set0 j c r ((c 15) (Int32.toNatClampNeg (((16 : Int32) * (0 : Int32)) + ((((rZ_get0 j c s) + t) - (4096 : Int32)) / (4 : Int32))))) i a  (by assumption)) ?_
          exact am_ri (S := sZ_moved) (by unfold rZ_moved0; simp only [if_neg h1, if_neg h2, if_pos h3, if_pos h4]; try rfl) (by unfold aZ_moved0; simp only [if_neg h1, if_neg h2, if_pos h3, if_pos h4]; try rfl) rfl rfl
        · skip
          refine am_call (eZ_get0 j c r i a  (by assumption)) ?_
          refine And.intro (by exact in_mv0 (by assumption) (by assumption)) ?_
          exact am_ri (S := sZ_moved) (by unfold rZ_moved0; simp only [if_neg h1, if_neg h2, if_pos h3, if_neg h4]; try rfl) (by unfold aZ_moved0; simp only [if_neg h1, if_neg h2, if_pos h3, if_neg h4]; try rfl) rfl rfl
      · skip
        exact am_ri (S := sZ_moved) (by unfold rZ_moved0; simp only [if_neg h1, if_neg h2, if_neg h3]; try rfl) (by unfold aZ_moved0; simp only [if_neg h1, if_neg h2, if_neg h3]; try rfl) rfl rfl
theorem zoZ_moved0 (j : Nat → Int32) (c : Nat → Nat → Int32) (q r s t : Int32) : rZ_moved0 j c q r s t = 0 ∨ rZ_moved0 j c q r s t = 1 := by
  unfold rZ_moved0
  repeat' (first | with_reducible refine zo_ite ?_ ?_ | with_reducible exact Or.inl rfl | with_reducible exact Or.inr rfl)
noncomputable def rZ_state_0 (j : Nat → Int32) (c : Nat → Nat → Int32) (q : Int32) : Int32 := if (rZ_outside q (0 : Int32) (2 : Int32)) = (0 : Int32) then if ((c 20) (Int32.toNatClampNeg (0 : Int32))) = (0 : Int32) then (0 : Int32) else if q = (0 : Int32) then ((c 18) (Int32.toNatClampNeg (0 : Int32))) else if q = (1 : Int32) then ((c 19) (Int32.toNatClampNeg (0 : Int32))) else ((c 17) (Int32.toNatClampNeg (0 : Int32))) else (-1 : Int32)
set_option maxHeartbeats 4000000 in
set_option maxRecDepth 100000 in
theorem eZ_state_0 (j : Nat → Int32) (c : Nat → Nat → Int32) (q : Int32) (i : Nat → Int32) (a : Nat → Nat → Int32) : am_Ev sZ_state [.ref 30, .int (0 : Int32), .int q] (wX i a (wZ j c)) (some (.int (rZ_state_0 j c q))) (wX i a (wZ j c)) := by
  refine am_Ev_of cwZ_state rfl rfl rfl (am_wp_T gdZ_state 400 ?_)
  refine am_call (eZ_outside (0 : Int32) (0 : Int32) (1 : Int32) _) ?_
  refine am_split (fun _ => ?_) (fun hz => absurd (by decide) hz)
  refine am_call (eZ_outside q (0 : Int32) (2 : Int32) _) ?_
  refine am_split (fun h1 => ?_) (fun h1 => ?_)
  · skip
    refine And.intro (by exact vp_lit rfl) ?_
    refine am_split (fun h2 => ?_) (fun h2 => ?_)
    · skip
      exact am_ri (S := sZ_state) (by unfold rZ_state_0; simp only [if_pos h1, if_pos h2]; try rfl) rfl rfl rfl
    · skip
      refine am_split (fun h3 => ?_) (fun h3 => ?_)
      · skip
        refine And.intro (by exact vp_lit rfl) ?_
        exact am_ri (S := sZ_state) (by unfold rZ_state_0; simp only [if_pos h1, if_neg h2, if_pos h3]; try rfl) rfl rfl rfl
      · skip
        refine am_split (fun h4 => ?_) (fun h4 => ?_)
        · skip
          refine And.intro (by exact vp_lit rfl) ?_
          exact am_ri (S := sZ_state) (by unfold rZ_state_0; simp only [if_pos h1, if_neg h2, if_neg h3, if_pos h4]; try rfl) rfl rfl rfl
        · skip
          refine And.intro (by exact vp_lit rfl) ?_
          exact am_ri (S := sZ_state) (by unfold rZ_state_0; simp only [if_pos h1, if_neg h2, if_neg h3, if_neg h4]; try rfl) rfl rfl rfl
  · skip
    exact am_ri (S := sZ_state) (by unfold rZ_state_0; simp only [if_neg h1]; try rfl) rfl rfl rfl
noncomputable def rZ_output_0 (j : Nat → Int32) (c : Nat → Nat → Int32) (q : Int32) : Int32 := if q < (0 : Int32) then (0 : Int32) else if q < ((c 17) (Int32.toNatClampNeg (0 : Int32))) then ((c 16) (Int32.toNatClampNeg (((40 : Int32) * (0 : Int32)) + q))) else (0 : Int32)
set_option maxHeartbeats 4000000 in
set_option maxRecDepth 100000 in
theorem eZ_output_0 (j : Nat → Int32) (c : Nat → Nat → Int32) (q : Int32) (i : Nat → Int32) (a : Nat → Nat → Int32) (hz : ¬ q < 0 → q < c 17 (Int32.toNatClampNeg (0 : Int32)) → vp_in (((40 : Int32) * (0 : Int32)) + q) 80) : am_Ev sZ_output [.ref 30, .int (0 : Int32), .int q] (wX i a (wZ j c)) (some (.int (rZ_output_0 j c q))) (wX i a (wZ j c)) := by
  refine am_Ev_of cwZ_output rfl rfl rfl (am_wp_T gdZ_output 400 ?_)
  refine am_call (eZ_outside (0 : Int32) (0 : Int32) (1 : Int32) _) ?_
  refine am_split (fun _ => ?_) (fun hz => absurd (by decide) hz)
  refine am_split (fun h1 => ?_) (fun h1 => ?_)
  · skip
    exact am_ri (S := sZ_output) (by unfold rZ_output_0; simp only [if_pos h1]; try rfl) rfl rfl rfl
  · skip
    refine And.intro (by exact vp_lit rfl) ?_
    refine am_split (fun h2 => ?_) (fun h2 => ?_)
    · skip
      refine And.intro (by exact hz (by assumption) (by assumption)) ?_
      exact am_ri (S := sZ_output) (by unfold rZ_output_0; simp only [if_neg h1, if_pos h2]; try rfl) rfl rfl rfl
    · skip
      exact am_ri (S := sZ_output) (by unfold rZ_output_0; simp only [if_neg h1, if_neg h2]; try rfl) rfl rfl rfl
noncomputable def rZ_register_0 (j : Nat → Int32) (c : Nat → Nat → Int32) (q : Int32) : Int32 := if (rZ_notRegister q) = (0 : Int32) then ((c 14) (Int32.toNatClampNeg (((32 : Int32) * (0 : Int32)) + q))) else (0 : Int32)
set_option maxHeartbeats 4000000 in
set_option maxRecDepth 100000 in
theorem eZ_register_0 (j : Nat → Int32) (c : Nat → Nat → Int32) (q : Int32) (i : Nat → Int32) (a : Nat → Nat → Int32) : am_Ev sZ_register [.ref 30, .int (0 : Int32), .int q] (wX i a (wZ j c)) (some (.int (rZ_register_0 j c q))) (wX i a (wZ j c)) := by
  refine am_Ev_of cwZ_register rfl rfl rfl (am_wp_T gdZ_register 400 ?_)
  refine am_call (eZ_outside (0 : Int32) (0 : Int32) (1 : Int32) _) ?_
  refine am_split (fun _ => ?_) (fun hz => absurd (by decide) hz)
  refine am_call (eZ_notRegister q _) ?_
  refine am_split (fun h1 => ?_) (fun h1 => ?_)
  · skip
    refine And.intro (by exact in_rg0 (inR_of (by assumption))) ?_
    exact am_ri (S := sZ_register) (by unfold rZ_register_0; simp only [if_pos h1]; try rfl) rfl rfl rfl
  · skip
    exact am_ri (S := sZ_register) (by unfold rZ_register_0; simp only [if_neg h1]; try rfl) rfl rfl rfl
noncomputable def rZ_word_0 (j : Nat → Int32) (c : Nat → Nat → Int32) (q : Int32) : Int32 := if (rZ_outside q (0 : Int32) (15 : Int32)) = (0 : Int32) then ((c 15) (Int32.toNatClampNeg (((16 : Int32) * (0 : Int32)) + q))) else (0 : Int32)
set_option maxHeartbeats 4000000 in
set_option maxRecDepth 100000 in
theorem eZ_word_0 (j : Nat → Int32) (c : Nat → Nat → Int32) (q : Int32) (i : Nat → Int32) (a : Nat → Nat → Int32) : am_Ev sZ_word [.ref 30, .int (0 : Int32), .int q] (wX i a (wZ j c)) (some (.int (rZ_word_0 j c q))) (wX i a (wZ j c)) := by
  refine am_Ev_of cwZ_word rfl rfl rfl (am_wp_T gdZ_word 400 ?_)
  refine am_call (eZ_outside (0 : Int32) (0 : Int32) (1 : Int32) _) ?_
  refine am_split (fun _ => ?_) (fun hz => absurd (by decide) hz)
  refine am_call (eZ_outside q (0 : Int32) (15 : Int32) _) ?_
  refine am_split (fun h1 => ?_) (fun h1 => ?_)
  · skip
    refine And.intro (by exact in_w0 (by assumption)) ?_
    exact am_ri (S := sZ_word) (by unfold rZ_word_0; simp only [if_pos h1]; try rfl) rfl rfl rfl
  · skip
    exact am_ri (S := sZ_word) (by unfold rZ_word_0; simp only [if_neg h1]; try rfl) rfl rfl rfl
noncomputable def rZ_moved1 (j : Nat → Int32) (c : Nat → Nat → Int32) (q r s t : Int32) : Int32 := if (((rZ_get1 j c s) + t) - (4096 : Int32)) < (0 : Int32) then (0 : Int32) else if (63 : Int32) < (((rZ_get1 j c s) + t) - (4096 : Int32)) then (0 : Int32) else if ((((rZ_get1 j c s) + t) - (4096 : Int32)) - (((rZ_get1 j c s) + t) - (4096 : Int32)) / (4 : Int32) * (4 : Int32)) = (0 : Int32) then if q = (6 : Int32) then (1 : Int32) else (1 : Int32) else (0 : Int32)
noncomputable def aZ_moved1 (j : Nat → Int32) (c : Nat → Nat → Int32) (q r s t : Int32) : Nat → Nat → Int32 := if (((rZ_get1 j c s) + t) - (4096 : Int32)) < (0 : Int32) then c else if (63 : Int32) < (((rZ_get1 j c s) + t) - (4096 : Int32)) then c else if ((((rZ_get1 j c s) + t) - (4096 : Int32)) - (((rZ_get1 j c s) + t) - (4096 : Int32)) / (4 : Int32) * (4 : Int32)) = (0 : Int32) then if q = (6 : Int32) then (aZ_set1 j c r ((c 15) (Int32.toNatClampNeg (((16 : Int32) * (1 : Int32)) + ((((rZ_get1 j c s) + t) - (4096 : Int32)) / (4 : Int32)))))) else (sA c (upd (c 15) (Int32.toNatClampNeg (((16 : Int32) * (1 : Int32)) + ((((rZ_get1 j c s) + t) - (4096 : Int32)) / (4 : Int32)))) (rZ_get1 j c r)) 15) else c
set_option maxHeartbeats 4000000 in
set_option maxRecDepth 100000 in
theorem eZ_moved1 (j : Nat → Int32) (c : Nat → Nat → Int32) (q r s t : Int32) (i : Nat → Int32) (a : Nat → Nat → Int32) (ha : inR r) (hb : inR s) : am_Ev sZ_moved [.ref 30, .int (1 : Int32), .int q, .int r, .int s, .int t] (wX i a (wZ j c)) (some (.int (rZ_moved1 j c q r s t))) (wX i a (wZ j (aZ_moved1 j c q r s t))) := by
  refine am_Ev_of cwZ_moved rfl rfl rfl (am_wp_T gdZ_moved 400 ?_)
  refine am_call (eZ_get1 j c s i a  (by assumption)) ?_
  refine am_split (fun h1 => ?_) (fun h1 => ?_)
  · skip
    exact am_ri (S := sZ_moved) (by unfold rZ_moved1; simp only [if_pos h1]; try rfl) (by unfold aZ_moved1; simp only [if_pos h1]; try rfl) rfl rfl
  · skip
    refine am_split (fun h2 => ?_) (fun h2 => ?_)
    · skip
      exact am_ri (S := sZ_moved) (by unfold rZ_moved1; simp only [if_neg h1, if_pos h2]; try rfl) (by unfold aZ_moved1; simp only [if_neg h1, if_pos h2]; try rfl) rfl rfl
    · skip
      refine am_split (fun h3 => ?_) (fun h3 => ?_)
      · skip
        refine am_split (fun h4 => ?_) (fun h4 => ?_)
        · skip
          refine And.intro (by exact in_mv1 (by assumption) (by assumption)) ?_
          refine am_call (eZ_set1 j c r ((c 15) (Int32.toNatClampNeg (((16 : Int32) * (1 : Int32)) + ((((rZ_get1 j c s) + t) - (4096 : Int32)) / (4 : Int32))))) i a  (by assumption)) ?_
          exact am_ri (S := sZ_moved) (by unfold rZ_moved1; simp only [if_neg h1, if_neg h2, if_pos h3, if_pos h4]; try rfl) (by unfold aZ_moved1; simp only [if_neg h1, if_neg h2, if_pos h3, if_pos h4]; try rfl) rfl rfl
        · skip
          refine am_call (eZ_get1 j c r i a  (by assumption)) ?_
          refine And.intro (by exact in_mv1 (by assumption) (by assumption)) ?_
          exact am_ri (S := sZ_moved) (by unfold rZ_moved1; simp only [if_neg h1, if_neg h2, if_pos h3, if_neg h4]; try rfl) (by unfold aZ_moved1; simp only [if_neg h1, if_neg h2, if_pos h3, if_neg h4]; try rfl) rfl rfl
      · skip
        exact am_ri (S := sZ_moved) (by unfold rZ_moved1; simp only [if_neg h1, if_neg h2, if_neg h3]; try rfl) (by unfold aZ_moved1; simp only [if_neg h1, if_neg h2, if_neg h3]; try rfl) rfl rfl
theorem zoZ_moved1 (j : Nat → Int32) (c : Nat → Nat → Int32) (q r s t : Int32) : rZ_moved1 j c q r s t = 0 ∨ rZ_moved1 j c q r s t = 1 := by
  unfold rZ_moved1
  repeat' (first | with_reducible refine zo_ite ?_ ?_ | with_reducible exact Or.inl rfl | with_reducible exact Or.inr rfl)
noncomputable def rZ_state_1 (j : Nat → Int32) (c : Nat → Nat → Int32) (q : Int32) : Int32 := if (rZ_outside q (0 : Int32) (2 : Int32)) = (0 : Int32) then if ((c 20) (Int32.toNatClampNeg (1 : Int32))) = (0 : Int32) then (0 : Int32) else if q = (0 : Int32) then ((c 18) (Int32.toNatClampNeg (1 : Int32))) else if q = (1 : Int32) then ((c 19) (Int32.toNatClampNeg (1 : Int32))) else ((c 17) (Int32.toNatClampNeg (1 : Int32))) else (-1 : Int32)
set_option maxHeartbeats 4000000 in
set_option maxRecDepth 100000 in
theorem eZ_state_1 (j : Nat → Int32) (c : Nat → Nat → Int32) (q : Int32) (i : Nat → Int32) (a : Nat → Nat → Int32) : am_Ev sZ_state [.ref 30, .int (1 : Int32), .int q] (wX i a (wZ j c)) (some (.int (rZ_state_1 j c q))) (wX i a (wZ j c)) := by
  refine am_Ev_of cwZ_state rfl rfl rfl (am_wp_T gdZ_state 400 ?_)
  refine am_call (eZ_outside (1 : Int32) (0 : Int32) (1 : Int32) _) ?_
  refine am_split (fun _ => ?_) (fun hz => absurd (by decide) hz)
  refine am_call (eZ_outside q (0 : Int32) (2 : Int32) _) ?_
  refine am_split (fun h1 => ?_) (fun h1 => ?_)
  · skip
    refine And.intro (by exact vp_lit rfl) ?_
    refine am_split (fun h2 => ?_) (fun h2 => ?_)
    · skip
      exact am_ri (S := sZ_state) (by unfold rZ_state_1; simp only [if_pos h1, if_pos h2]; try rfl) rfl rfl rfl
    · skip
      refine am_split (fun h3 => ?_) (fun h3 => ?_)
      · skip
        refine And.intro (by exact vp_lit rfl) ?_
        exact am_ri (S := sZ_state) (by unfold rZ_state_1; simp only [if_pos h1, if_neg h2, if_pos h3]; try rfl) rfl rfl rfl
      · skip
        refine am_split (fun h4 => ?_) (fun h4 => ?_)
        · skip
          refine And.intro (by exact vp_lit rfl) ?_
          exact am_ri (S := sZ_state) (by unfold rZ_state_1; simp only [if_pos h1, if_neg h2, if_neg h3, if_pos h4]; try rfl) rfl rfl rfl
        · skip
          refine And.intro (by exact vp_lit rfl) ?_
          exact am_ri (S := sZ_state) (by unfold rZ_state_1; simp only [if_pos h1, if_neg h2, if_neg h3, if_neg h4]; try rfl) rfl rfl rfl
  · skip
    exact am_ri (S := sZ_state) (by unfold rZ_state_1; simp only [if_neg h1]; try rfl) rfl rfl rfl
noncomputable def rZ_output_1 (j : Nat → Int32) (c : Nat → Nat → Int32) (q : Int32) : Int32 := if q < (0 : Int32) then (0 : Int32) else if q < ((c 17) (Int32.toNatClampNeg (1 : Int32))) then ((c 16) (Int32.toNatClampNeg (((40 : Int32) * (1 : Int32)) + q))) else (0 : Int32)
set_option maxHeartbeats 4000000 in
set_option maxRecDepth 100000 in
theorem eZ_output_1 (j : Nat → Int32) (c : Nat → Nat → Int32) (q : Int32) (i : Nat → Int32) (a : Nat → Nat → Int32) (hz : ¬ q < 0 → q < c 17 (Int32.toNatClampNeg (1 : Int32)) → vp_in (((40 : Int32) * (1 : Int32)) + q) 80) : am_Ev sZ_output [.ref 30, .int (1 : Int32), .int q] (wX i a (wZ j c)) (some (.int (rZ_output_1 j c q))) (wX i a (wZ j c)) := by
  refine am_Ev_of cwZ_output rfl rfl rfl (am_wp_T gdZ_output 400 ?_)
  refine am_call (eZ_outside (1 : Int32) (0 : Int32) (1 : Int32) _) ?_
  refine am_split (fun _ => ?_) (fun hz => absurd (by decide) hz)
  refine am_split (fun h1 => ?_) (fun h1 => ?_)
  · skip
    exact am_ri (S := sZ_output) (by unfold rZ_output_1; simp only [if_pos h1]; try rfl) rfl rfl rfl
  · skip
    refine And.intro (by exact vp_lit rfl) ?_
    refine am_split (fun h2 => ?_) (fun h2 => ?_)
    · skip
      refine And.intro (by exact hz (by assumption) (by assumption)) ?_
      exact am_ri (S := sZ_output) (by unfold rZ_output_1; simp only [if_neg h1, if_pos h2]; try rfl) rfl rfl rfl
    · skip
      exact am_ri (S := sZ_output) (by unfold rZ_output_1; simp only [if_neg h1, if_neg h2]; try rfl) rfl rfl rfl
noncomputable def rZ_register_1 (j : Nat → Int32) (c : Nat → Nat → Int32) (q : Int32) : Int32 := if (rZ_notRegister q) = (0 : Int32) then ((c 14) (Int32.toNatClampNeg (((32 : Int32) * (1 : Int32)) + q))) else (0 : Int32)
set_option maxHeartbeats 4000000 in
set_option maxRecDepth 100000 in
theorem eZ_register_1 (j : Nat → Int32) (c : Nat → Nat → Int32) (q : Int32) (i : Nat → Int32) (a : Nat → Nat → Int32) : am_Ev sZ_register [.ref 30, .int (1 : Int32), .int q] (wX i a (wZ j c)) (some (.int (rZ_register_1 j c q))) (wX i a (wZ j c)) := by
  refine am_Ev_of cwZ_register rfl rfl rfl (am_wp_T gdZ_register 400 ?_)
  refine am_call (eZ_outside (1 : Int32) (0 : Int32) (1 : Int32) _) ?_
  refine am_split (fun _ => ?_) (fun hz => absurd (by decide) hz)
  refine am_call (eZ_notRegister q _) ?_
  refine am_split (fun h1 => ?_) (fun h1 => ?_)
  · skip
    refine And.intro (by exact in_rg1 (inR_of (by assumption))) ?_
    exact am_ri (S := sZ_register) (by unfold rZ_register_1; simp only [if_pos h1]; try rfl) rfl rfl rfl
  · skip
    exact am_ri (S := sZ_register) (by unfold rZ_register_1; simp only [if_neg h1]; try rfl) rfl rfl rfl
noncomputable def rZ_word_1 (j : Nat → Int32) (c : Nat → Nat → Int32) (q : Int32) : Int32 := if (rZ_outside q (0 : Int32) (15 : Int32)) = (0 : Int32) then ((c 15) (Int32.toNatClampNeg (((16 : Int32) * (1 : Int32)) + q))) else (0 : Int32)
set_option maxHeartbeats 4000000 in
set_option maxRecDepth 100000 in
theorem eZ_word_1 (j : Nat → Int32) (c : Nat → Nat → Int32) (q : Int32) (i : Nat → Int32) (a : Nat → Nat → Int32) : am_Ev sZ_word [.ref 30, .int (1 : Int32), .int q] (wX i a (wZ j c)) (some (.int (rZ_word_1 j c q))) (wX i a (wZ j c)) := by
  refine am_Ev_of cwZ_word rfl rfl rfl (am_wp_T gdZ_word 400 ?_)
  refine am_call (eZ_outside (1 : Int32) (0 : Int32) (1 : Int32) _) ?_
  refine am_split (fun _ => ?_) (fun hz => absurd (by decide) hz)
  refine am_call (eZ_outside q (0 : Int32) (15 : Int32) _) ?_
  refine am_split (fun h1 => ?_) (fun h1 => ?_)
  · skip
    refine And.intro (by exact in_w1 (by assumption)) ?_
    exact am_ri (S := sZ_word) (by unfold rZ_word_1; simp only [if_pos h1]; try rfl) rfl rfl rfl
  · skip
    exact am_ri (S := sZ_word) (by unfold rZ_word_1; simp only [if_neg h1]; try rfl) rfl rfl rfl
noncomputable def rZ_state_n (j : Nat → Int32) (c : Nat → Nat → Int32) (p q : Int32) : Int32 := (-1 : Int32)
set_option maxHeartbeats 4000000 in
set_option maxRecDepth 100000 in
theorem eZ_state_n (j : Nat → Int32) (c : Nat → Nat → Int32) (p q : Int32) (i : Nat → Int32) (a : Nat → Nat → Int32) (k0 : ¬ rZ_outside p (0 : Int32) (1 : Int32) = (0 : Int32)) : am_Ev sZ_state [.ref 30, .int p, .int q] (wX i a (wZ j c)) (some (.int (rZ_state_n j c p q))) (wX i a (wZ j c)) := by
  refine am_Ev_of cwZ_state rfl rfl rfl (am_wp_T gdZ_state 400 ?_)
  refine am_call (eZ_outside p (0 : Int32) (1 : Int32) _) ?_
  refine am_split (fun hz => absurd hz k0) (fun _ => ?_)
  exact am_ri (S := sZ_state) rfl rfl rfl rfl
noncomputable def rZ_output_n (j : Nat → Int32) (c : Nat → Nat → Int32) (p q : Int32) : Int32 := (0 : Int32)
set_option maxHeartbeats 4000000 in
set_option maxRecDepth 100000 in
theorem eZ_output_n (j : Nat → Int32) (c : Nat → Nat → Int32) (p q : Int32) (i : Nat → Int32) (a : Nat → Nat → Int32) (k0 : ¬ rZ_outside p (0 : Int32) (1 : Int32) = (0 : Int32)) : am_Ev sZ_output [.ref 30, .int p, .int q] (wX i a (wZ j c)) (some (.int (rZ_output_n j c p q))) (wX i a (wZ j c)) := by
  refine am_Ev_of cwZ_output rfl rfl rfl (am_wp_T gdZ_output 400 ?_)
  refine am_call (eZ_outside p (0 : Int32) (1 : Int32) _) ?_
  refine am_split (fun hz => absurd hz k0) (fun _ => ?_)
  exact am_ri (S := sZ_output) rfl rfl rfl rfl
noncomputable def rZ_register_n (j : Nat → Int32) (c : Nat → Nat → Int32) (p q : Int32) : Int32 := (0 : Int32)
set_option maxHeartbeats 4000000 in
set_option maxRecDepth 100000 in
theorem eZ_register_n (j : Nat → Int32) (c : Nat → Nat → Int32) (p q : Int32) (i : Nat → Int32) (a : Nat → Nat → Int32) (k0 : ¬ rZ_outside p (0 : Int32) (1 : Int32) = (0 : Int32)) : am_Ev sZ_register [.ref 30, .int p, .int q] (wX i a (wZ j c)) (some (.int (rZ_register_n j c p q))) (wX i a (wZ j c)) := by
  refine am_Ev_of cwZ_register rfl rfl rfl (am_wp_T gdZ_register 400 ?_)
  refine am_call (eZ_outside p (0 : Int32) (1 : Int32) _) ?_
  refine am_split (fun hz => absurd hz k0) (fun _ => ?_)
  exact am_ri (S := sZ_register) rfl rfl rfl rfl
noncomputable def rZ_word_n (j : Nat → Int32) (c : Nat → Nat → Int32) (p q : Int32) : Int32 := (0 : Int32)
set_option maxHeartbeats 4000000 in
set_option maxRecDepth 100000 in
theorem eZ_word_n (j : Nat → Int32) (c : Nat → Nat → Int32) (p q : Int32) (i : Nat → Int32) (a : Nat → Nat → Int32) (k0 : ¬ rZ_outside p (0 : Int32) (1 : Int32) = (0 : Int32)) : am_Ev sZ_word [.ref 30, .int p, .int q] (wX i a (wZ j c)) (some (.int (rZ_word_n j c p q))) (wX i a (wZ j c)) := by
  refine am_Ev_of cwZ_word rfl rfl rfl (am_wp_T gdZ_word 400 ?_)
  refine am_call (eZ_outside p (0 : Int32) (1 : Int32) _) ?_
  refine am_split (fun hz => absurd hz k0) (fun _ => ?_)
  exact am_ri (S := sZ_word) rfl rfl rfl rfl
noncomputable def rZ_bitsAt (j : Nat → Int32) (c : Nat → Nat → Int32) (p : Int32) : Int32 := if (rZ_isLong ((rZ_byteAt j c p) ||| ((rZ_byteAt j c (p + (1 : Int32))) <<< ((8 : Int32) &&& 31)))) = (0 : Int32) then ((rZ_byteAt j c p) ||| ((rZ_byteAt j c (p + (1 : Int32))) <<< ((8 : Int32) &&& 31))) else ((((rZ_byteAt j c p) ||| ((rZ_byteAt j c (p + (1 : Int32))) <<< ((8 : Int32) &&& 31))) ||| ((rZ_byteAt j c (p + (2 : Int32))) <<< ((16 : Int32) &&& 31))) ||| ((rZ_byteAt j c (p + (3 : Int32))) <<< ((24 : Int32) &&& 31)))
set_option maxHeartbeats 4000000 in
set_option maxRecDepth 100000 in
theorem eZ_bitsAt (j : Nat → Int32) (c : Nat → Nat → Int32) (p : Int32) (i : Nat → Int32) (a : Nat → Nat → Int32) (hp : 0 ≤ p.toInt) (hp2 : p.toInt ≤ 1000) (hs : (j 3).toInt ≤ 256) : am_Ev sZ_bitsAt [.ref 30, .int p] (wX i a (wZ j c)) (some (.int (rZ_bitsAt j c p))) (wX i a (wZ j c)) := by
  refine am_Ev_of cwZ_bitsAt rfl rfl rfl (am_wp_T gdZ_bitsAt 400 ?_)
  refine am_call (eZ_byteAt j c p i a  (by intro hq; exact in_by (by first | exact hp | exact nn_add hp hp2 (by decide) (by decide)) hs hq)) ?_
  refine am_call (eZ_byteAt j c (p + (1 : Int32)) i a  (by intro hq; exact in_by (by first | exact hp | exact nn_add hp hp2 (by decide) (by decide)) hs hq)) ?_
  refine am_call (eZ_isLong ((rZ_byteAt j c p) ||| ((rZ_byteAt j c (p + (1 : Int32))) <<< ((8 : Int32) &&& 31))) _) ?_
  refine am_split (fun h1 => ?_) (fun h1 => ?_)
  · skip
    exact am_ri (S := sZ_bitsAt) (by unfold rZ_bitsAt; simp only [if_pos h1]; try rfl) rfl rfl rfl
  · skip
    refine am_call (eZ_byteAt j c (p + (2 : Int32)) i a  (by intro hq; exact in_by (by first | exact hp | exact nn_add hp hp2 (by decide) (by decide)) hs hq)) ?_
    refine am_call (eZ_byteAt j c (p + (3 : Int32)) i a  (by intro hq; exact in_by (by first | exact hp | exact nn_add hp hp2 (by decide) (by decide)) hs hq)) ?_
    exact am_ri (S := sZ_bitsAt) (by unfold rZ_bitsAt; simp only [if_neg h1]; try rfl) rfl rfl rfl

/-! walks by program: the reference's methods with state, without loops -/
def inR (r : Int32) : Prop := 0 ≤ r.toInt ∧ r.toInt < 32
theorem in_rg0 {r : Int32} (h : inR r) : vp_in (((32 : Int32) * (0 : Int32)) + r) 64 := by
  rw [show ((32 : Int32) * (0 : Int32)) + r = r by rw [show (32 : Int32) * (0 : Int32) = 0 from rfl]; exact Int32.zero_add r, vp_in_iff]
  have := h.1
  have := h.2
  omega
theorem add_i {x y : Int32} (h1 : -2147483648 ≤ x.toInt + y.toInt) (h2 : x.toInt + y.toInt < 2147483648) : (x + y).toInt = x.toInt + y.toInt := by
  rw [Int32.toInt_add]
  exact Int.bmod_eq_of_le (by simpa using h1) (by simpa using h2)
theorem in_off {x y : Int32} {N : Nat} (hx : 0 ≤ x.toInt) (hy : 0 ≤ y.toInt) (h : x.toInt + y.toInt < N) (hN : N < 2147483648) : vp_in (x + y) N := by
  rw [vp_in_iff, add_i (by omega) (by omega)]
  omega
theorem in_rg1 {r : Int32} (h : inR r) : vp_in (((32 : Int32) * (1 : Int32)) + r) 64 := by
  have e : ((32 : Int32) * (1 : Int32)).toInt = 32 := rfl
  have := h.1
  have := h.2
  exact in_off (by omega) (by omega) (by omega) (by decide)
theorem inR_of {r : Int32} (h : rZ_notRegister r = 0) : inR r := by
  unfold rZ_notRegister at h
  split at h
  · cases h
  · split at h
    · rename_i h1 h2
      rw [lt_i] at h1
      rw [le_i] at h2
      have e0 : (0 : Int32).toInt = 0 := rfl
      have e1 : (31 : Int32).toInt = 31 := rfl
      constructor <;> omega
    · cases h
noncomputable def rZ_line (j : Nat → Int32) (c : Nat → Nat → Int32) (p q r s : Int32) : Int32 := if (rZ_isLine p q r s) = (0 : Int32) then (-1 : Int32) else if (j 0) = (20 : Int32) then (-2 : Int32) else ((j 0) + (1 : Int32))
noncomputable def iZ_line (j : Nat → Int32) (c : Nat → Nat → Int32) (p q r s : Int32) : Nat → Int32 := if (rZ_isLine p q r s) = (0 : Int32) then j else if (j 0) = (20 : Int32) then j else (sI j ((j 0) + (1 : Int32)) 0)
noncomputable def aZ_line (j : Nat → Int32) (c : Nat → Nat → Int32) (p q r s : Int32) : Nat → Nat → Int32 := if (rZ_isLine p q r s) = (0 : Int32) then c else if (j 0) = (20 : Int32) then c else (sA (sA (sA (sA c (upd (c 0) (Int32.toNatClampNeg (j 0)) p) 0) (upd (c 1) (Int32.toNatClampNeg (j 0)) q) 1) (upd (c 2) (Int32.toNatClampNeg (j 0)) r) 2) (upd (c 3) (Int32.toNatClampNeg (j 0)) s) 3)
set_option maxHeartbeats 4000000 in
set_option maxRecDepth 100000 in
theorem eZ_line (j : Nat → Int32) (c : Nat → Nat → Int32) (p q r s : Int32) (i : Nat → Int32) (a : Nat → Nat → Int32) (hl : ¬ j 0 = 20 → vp_in (j 0) 20) : am_Ev sZ_line [.ref 30, .int p, .int q, .int r, .int s] (wX i a (wZ j c)) (some (.int (rZ_line j c p q r s))) (wX i a (wZ (iZ_line j c p q r s) (aZ_line j c p q r s))) := by
  refine am_Ev_of cwZ_line rfl rfl rfl (am_wp_T gdZ_line 400 ?_)
  refine am_call (eZ_isLine p q r s _) ?_
  refine am_split (fun h1 => ?_) (fun h1 => ?_)
  · skip
    exact am_ri (S := sZ_line) (by unfold rZ_line; simp only [if_pos h1]; try rfl) (by unfold iZ_line aZ_line; simp only [if_pos h1]; try rfl) rfl rfl
  · skip
    refine am_split (fun h2 => ?_) (fun h2 => ?_)
    · skip
      exact am_ri (S := sZ_line) (by unfold rZ_line; simp only [if_neg h1, if_pos h2]; try rfl) (by unfold iZ_line aZ_line; simp only [if_neg h1, if_pos h2]; try rfl) rfl rfl
    · skip
      refine And.intro (by exact hl (by assumption)) ?_
      refine And.intro (by exact hl (by assumption)) ?_
      refine And.intro (by exact hl (by assumption)) ?_
      refine And.intro (by exact hl (by assumption)) ?_
      exact am_ri (S := sZ_line) (by unfold rZ_line; simp only [if_neg h1, if_neg h2]; try rfl) (by unfold iZ_line aZ_line; simp only [if_neg h1, if_neg h2]; try rfl) rfl rfl
noncomputable def rZ_clear (j : Nat → Int32) (c : Nat → Nat → Int32) : Int32 := (j 0)
noncomputable def iZ_clear (j : Nat → Int32) (c : Nat → Nat → Int32) : Nat → Int32 := (sI j (0 : Int32) 0)
set_option maxHeartbeats 4000000 in
set_option maxRecDepth 100000 in
theorem eZ_clear (j : Nat → Int32) (c : Nat → Nat → Int32) (i : Nat → Int32) (a : Nat → Nat → Int32) : am_Ev sZ_clear [.ref 30] (wX i a (wZ j c)) (some (.int (rZ_clear j c ))) (wX i a (wZ (iZ_clear j c ) c)) := by
  refine am_Ev_of cwZ_clear rfl rfl rfl (am_wp_T gdZ_clear 400 ?_)
  exact am_ri (S := sZ_clear) rfl rfl rfl rfl
noncomputable def rZ_targetOf (j : Nat → Int32) (c : Nat → Nat → Int32) (p : Int32) : Int32 := if ((c 0) (Int32.toNatClampNeg p)) = (11 : Int32) then ((c 2) (Int32.toNatClampNeg p)) else if ((c 0) (Int32.toNatClampNeg p)) = (16 : Int32) then ((c 2) (Int32.toNatClampNeg p)) else if ((c 0) (Int32.toNatClampNeg p)) < (8 : Int32) then (-1 : Int32) else if (10 : Int32) < ((c 0) (Int32.toNatClampNeg p)) then (-1 : Int32) else ((c 3) (Int32.toNatClampNeg p))
set_option maxHeartbeats 4000000 in
set_option maxRecDepth 100000 in
theorem eZ_targetOf (j : Nat → Int32) (c : Nat → Nat → Int32) (p : Int32) (i : Nat → Int32) (a : Nat → Nat → Int32) (hp : vp_in p 20) : am_Ev sZ_targetOf [.ref 30, .int p] (wX i a (wZ j c)) (some (.int (rZ_targetOf j c p))) (wX i a (wZ j c)) := by
  refine am_Ev_of cwZ_targetOf rfl rfl rfl (am_wp_T gdZ_targetOf 400 ?_)
  refine And.intro (by assumption) ?_
  refine am_split (fun h1 => ?_) (fun h1 => ?_)
  · skip
    refine And.intro (by assumption) ?_
    exact am_ri (S := sZ_targetOf) (by unfold rZ_targetOf; simp only [if_pos h1]; try rfl) rfl rfl rfl
  · skip
    refine am_split (fun h2 => ?_) (fun h2 => ?_)
    · skip
      refine And.intro (by assumption) ?_
      exact am_ri (S := sZ_targetOf) (by unfold rZ_targetOf; simp only [if_neg h1, if_pos h2]; try rfl) rfl rfl rfl
    · skip
      refine am_split (fun h3 => ?_) (fun h3 => ?_)
      · skip
        exact am_ri (S := sZ_targetOf) (by unfold rZ_targetOf; simp only [if_neg h1, if_neg h2, if_pos h3]; try rfl) rfl rfl rfl
      · skip
        refine am_split (fun h4 => ?_) (fun h4 => ?_)
        · skip
          exact am_ri (S := sZ_targetOf) (by unfold rZ_targetOf; simp only [if_neg h1, if_neg h2, if_neg h3, if_pos h4]; try rfl) rfl rfl rfl
        · skip
          refine And.intro (by assumption) ?_
          exact am_ri (S := sZ_targetOf) (by unfold rZ_targetOf; simp only [if_neg h1, if_neg h2, if_neg h3, if_neg h4]; try rfl) rfl rfl rfl
noncomputable def rZ_sizeOf (j : Nat → Int32) (c : Nat → Nat → Int32) (p : Int32) : Int32 := if ((c 0) (Int32.toNatClampNeg p)) = (6 : Int32) then (16 : Int32) else if ((c 0) (Int32.toNatClampNeg p)) = (7 : Int32) then (16 : Int32) else if ((c 0) (Int32.toNatClampNeg p)) = (12 : Int32) then (8 : Int32) else if ((c 0) (Int32.toNatClampNeg p)) = (13 : Int32) then (2 : Int32) else if ((c 0) (Int32.toNatClampNeg p)) = (14 : Int32) then (2 : Int32) else (4 : Int32)
set_option maxHeartbeats 4000000 in
set_option maxRecDepth 100000 in
theorem eZ_sizeOf (j : Nat → Int32) (c : Nat → Nat → Int32) (p : Int32) (i : Nat → Int32) (a : Nat → Nat → Int32) (hp : vp_in p 20) : am_Ev sZ_sizeOf [.ref 30, .int p] (wX i a (wZ j c)) (some (.int (rZ_sizeOf j c p))) (wX i a (wZ j c)) := by
  refine am_Ev_of cwZ_sizeOf rfl rfl rfl (am_wp_T gdZ_sizeOf 400 ?_)
  refine And.intro (by assumption) ?_
  refine am_split (fun h1 => ?_) (fun h1 => ?_)
  · skip
    exact am_ri (S := sZ_sizeOf) (by unfold rZ_sizeOf; simp only [if_pos h1]; try rfl) rfl rfl rfl
  · skip
    refine am_split (fun h2 => ?_) (fun h2 => ?_)
    · skip
      exact am_ri (S := sZ_sizeOf) (by unfold rZ_sizeOf; simp only [if_neg h1, if_pos h2]; try rfl) rfl rfl rfl
    · skip
      refine am_split (fun h3 => ?_) (fun h3 => ?_)
      · skip
        exact am_ri (S := sZ_sizeOf) (by unfold rZ_sizeOf; simp only [if_neg h1, if_neg h2, if_pos h3]; try rfl) rfl rfl rfl
      · skip
        refine am_split (fun h4 => ?_) (fun h4 => ?_)
        · skip
          exact am_ri (S := sZ_sizeOf) (by unfold rZ_sizeOf; simp only [if_neg h1, if_neg h2, if_neg h3, if_pos h4]; try rfl) rfl rfl rfl
        · skip
          refine am_split (fun h5 => ?_) (fun h5 => ?_)
          · skip
            exact am_ri (S := sZ_sizeOf) (by unfold rZ_sizeOf; simp only [if_neg h1, if_neg h2, if_neg h3, if_neg h4, if_pos h5]; try rfl) rfl rfl rfl
          · skip
            exact am_ri (S := sZ_sizeOf) (by unfold rZ_sizeOf; simp only [if_neg h1, if_neg h2, if_neg h3, if_neg h4, if_neg h5]; try rfl) rfl rfl rfl
noncomputable def rZ_ends (j : Nat → Int32) (c : Nat → Nat → Int32) (p : Int32) : Int32 := if ((c 0) (Int32.toNatClampNeg p)) = (15 : Int32) then (1 : Int32) else if ((c 0) (Int32.toNatClampNeg p)) = (11 : Int32) then if ((c 1) (Int32.toNatClampNeg p)) = (0 : Int32) then (0 : Int32) else (1 : Int32) else if ((c 0) (Int32.toNatClampNeg p)) = (12 : Int32) then if ((c 1) (Int32.toNatClampNeg p)) = (0 : Int32) then (0 : Int32) else (1 : Int32) else (0 : Int32)
set_option maxHeartbeats 4000000 in
set_option maxRecDepth 100000 in
theorem eZ_ends (j : Nat → Int32) (c : Nat → Nat → Int32) (p : Int32) (i : Nat → Int32) (a : Nat → Nat → Int32) (hp : vp_in p 20) : am_Ev sZ_ends [.ref 30, .int p] (wX i a (wZ j c)) (some (.int (rZ_ends j c p))) (wX i a (wZ j c)) := by
  refine am_Ev_of cwZ_ends rfl rfl rfl (am_wp_T gdZ_ends 400 ?_)
  refine And.intro (by assumption) ?_
  refine am_split (fun h1 => ?_) (fun h1 => ?_)
  · skip
    exact am_ri (S := sZ_ends) (by unfold rZ_ends; simp only [if_pos h1]; try rfl) rfl rfl rfl
  · skip
    refine And.intro (by assumption) ?_
    refine am_split (fun h2 => ?_) (fun h2 => ?_)
    · skip
      refine And.intro (by assumption) ?_
      refine am_split (fun h3 => ?_) (fun h3 => ?_)
      · skip
        exact am_ri (S := sZ_ends) (by unfold rZ_ends; simp only [if_neg h1, if_pos h2, if_pos h3]; try rfl) rfl rfl rfl
      · skip
        exact am_ri (S := sZ_ends) (by unfold rZ_ends; simp only [if_neg h1, if_pos h2, if_neg h3]; try rfl) rfl rfl rfl
    · skip
      refine And.intro (by assumption) ?_
      refine am_split (fun h4 => ?_) (fun h4 => ?_)
      · skip
        refine And.intro (by assumption) ?_
        refine am_split (fun h5 => ?_) (fun h5 => ?_)
        · skip
          exact am_ri (S := sZ_ends) (by unfold rZ_ends; simp only [if_neg h1, if_neg h2, if_pos h4, if_pos h5]; try rfl) rfl rfl rfl
        · skip
          exact am_ri (S := sZ_ends) (by unfold rZ_ends; simp only [if_neg h1, if_neg h2, if_pos h4, if_neg h5]; try rfl) rfl rfl rfl
      · skip
        exact am_ri (S := sZ_ends) (by unfold rZ_ends; simp only [if_neg h1, if_neg h2, if_neg h4]; try rfl) rfl rfl rfl
theorem zoZ_ends (j : Nat → Int32) (c : Nat → Nat → Int32) (p : Int32) : rZ_ends j c p = 0 ∨ rZ_ends j c p = 1 := by
  unfold rZ_ends
  repeat' (first | with_reducible refine zo_ite ?_ ?_ | with_reducible exact Or.inl rfl | with_reducible exact Or.inr rfl)
noncomputable def rZ_address (j : Nat → Int32) (c : Nat → Nat → Int32) (p : Int32) : Int32 := if (j 2) = (0 : Int32) then (-1 : Int32) else if p < (0 : Int32) then (-1 : Int32) else if p ≤ (j 1) then ((c 8) (Int32.toNatClampNeg p)) else (-1 : Int32)
set_option maxHeartbeats 4000000 in
set_option maxRecDepth 100000 in
theorem eZ_address (j : Nat → Int32) (c : Nat → Nat → Int32) (p : Int32) (i : Nat → Int32) (a : Nat → Nat → Int32) (hz : ¬ p < 0 → p ≤ j 1 → vp_in p 21) : am_Ev sZ_address [.ref 30, .int p] (wX i a (wZ j c)) (some (.int (rZ_address j c p))) (wX i a (wZ j c)) := by
  refine am_Ev_of cwZ_address rfl rfl rfl (am_wp_T gdZ_address 400 ?_)
  refine am_split (fun h1 => ?_) (fun h1 => ?_)
  · skip
    exact am_ri (S := sZ_address) (by unfold rZ_address; simp only [if_pos h1]; try rfl) rfl rfl rfl
  · skip
    refine am_split (fun h2 => ?_) (fun h2 => ?_)
    · skip
      exact am_ri (S := sZ_address) (by unfold rZ_address; simp only [if_neg h1, if_pos h2]; try rfl) rfl rfl rfl
    · skip
      refine am_split (fun h3 => ?_) (fun h3 => ?_)
      · skip
        refine And.intro (by exact hz (by assumption) (by assumption)) ?_
        exact am_ri (S := sZ_address) (by unfold rZ_address; simp only [if_neg h1, if_neg h2, if_pos h3]; try rfl) rfl rfl rfl
      · skip
        exact am_ri (S := sZ_address) (by unfold rZ_address; simp only [if_neg h1, if_neg h2, if_neg h3]; try rfl) rfl rfl rfl
noncomputable def rZ_poke (j : Nat → Int32) (c : Nat → Nat → Int32) (p q : Int32) : Int32 := if p < (0 : Int32) then (0 : Int32) else if (j 3) ≤ p then (0 : Int32) else if (rZ_outside q (0 : Int32) (255 : Int32)) = (0 : Int32) then (1 : Int32) else (0 : Int32)
noncomputable def aZ_poke (j : Nat → Int32) (c : Nat → Nat → Int32) (p q : Int32) : Nat → Nat → Int32 := if p < (0 : Int32) then c else if (j 3) ≤ p then c else if (rZ_outside q (0 : Int32) (255 : Int32)) = (0 : Int32) then (sA c (upd (c 11) (Int32.toNatClampNeg p) q) 11) else c
set_option maxHeartbeats 4000000 in
set_option maxRecDepth 100000 in
theorem eZ_poke (j : Nat → Int32) (c : Nat → Nat → Int32) (p q : Int32) (i : Nat → Int32) (a : Nat → Nat → Int32) (hz : ¬ p < 0 → ¬ j 3 ≤ p → vp_in p 256) : am_Ev sZ_poke [.ref 30, .int p, .int q] (wX i a (wZ j c)) (some (.int (rZ_poke j c p q))) (wX i a (wZ j (aZ_poke j c p q))) := by
  refine am_Ev_of cwZ_poke rfl rfl rfl (am_wp_T gdZ_poke 400 ?_)
  refine am_split (fun h1 => ?_) (fun h1 => ?_)
  · skip
    exact am_ri (S := sZ_poke) (by unfold rZ_poke; simp only [if_pos h1]; try rfl) (by unfold aZ_poke; simp only [if_pos h1]; try rfl) rfl rfl
  · skip
    refine am_split (fun h2 => ?_) (fun h2 => ?_)
    · skip
      exact am_ri (S := sZ_poke) (by unfold rZ_poke; simp only [if_neg h1, if_pos h2]; try rfl) (by unfold aZ_poke; simp only [if_neg h1, if_pos h2]; try rfl) rfl rfl
    · skip
      refine am_call (eZ_outside q (0 : Int32) (255 : Int32) _) ?_
      refine am_split (fun h3 => ?_) (fun h3 => ?_)
      · skip
        refine And.intro (by exact hz (by assumption) (by assumption)) ?_
        exact am_ri (S := sZ_poke) (by unfold rZ_poke; simp only [if_neg h1, if_neg h2, if_pos h3]; try rfl) (by unfold aZ_poke; simp only [if_neg h1, if_neg h2, if_pos h3]; try rfl) rfl rfl
      · skip
        exact am_ri (S := sZ_poke) (by unfold rZ_poke; simp only [if_neg h1, if_neg h2, if_neg h3]; try rfl) (by unfold aZ_poke; simp only [if_neg h1, if_neg h2, if_neg h3]; try rfl) rfl rfl
theorem zoZ_poke (j : Nat → Int32) (c : Nat → Nat → Int32) (p q : Int32) : rZ_poke j c p q = 0 ∨ rZ_poke j c p q = 1 := by
  unfold rZ_poke
  repeat' (first | with_reducible refine zo_ite ?_ ?_ | with_reducible exact Or.inl rfl | with_reducible exact Or.inr rfl)
noncomputable def rZ_peek (j : Nat → Int32) (c : Nat → Nat → Int32) (p : Int32) : Int32 := if p = (-1 : Int32) then (j 3) else if p < (0 : Int32) then (-1 : Int32) else if p < (j 3) then ((c 11) (Int32.toNatClampNeg p)) else (-1 : Int32)
set_option maxHeartbeats 4000000 in
set_option maxRecDepth 100000 in
theorem eZ_peek (j : Nat → Int32) (c : Nat → Nat → Int32) (p : Int32) (i : Nat → Int32) (a : Nat → Nat → Int32) (hz : ¬ p < 0 → ¬ j 3 ≤ p → vp_in p 256) : am_Ev sZ_peek [.ref 30, .int p] (wX i a (wZ j c)) (some (.int (rZ_peek j c p))) (wX i a (wZ j c)) := by
  refine am_Ev_of cwZ_peek rfl rfl rfl (am_wp_T gdZ_peek 400 ?_)
  refine am_split (fun h1 => ?_) (fun h1 => ?_)
  · skip
    exact am_ri (S := sZ_peek) (by unfold rZ_peek; simp only [if_pos h1]; try rfl) rfl rfl rfl
  · skip
    refine am_split (fun h2 => ?_) (fun h2 => ?_)
    · skip
      exact am_ri (S := sZ_peek) (by unfold rZ_peek; simp only [if_neg h1, if_pos h2]; try rfl) rfl rfl rfl
    · skip
      refine am_split (fun h3 => ?_) (fun h3 => ?_)
      · skip
        refine And.intro (by first | exact hz (by assumption) (by assumption) | exact hz (by assumption) (Int32.not_le.mpr (by assumption))) ?_
        exact am_ri (S := sZ_peek) (by unfold rZ_peek; simp only [if_neg h1, if_neg h2, if_pos h3]; try rfl) rfl rfl rfl
      · skip
        exact am_ri (S := sZ_peek) (by unfold rZ_peek; simp only [if_neg h1, if_neg h2, if_neg h3]; try rfl) rfl rfl rfl
noncomputable def rZ_byteAt (j : Nat → Int32) (c : Nat → Nat → Int32) (p : Int32) : Int32 := if (j 3) ≤ p then (0 : Int32) else ((c 11) (Int32.toNatClampNeg p))
set_option maxHeartbeats 4000000 in
set_option maxRecDepth 100000 in
theorem eZ_byteAt (j : Nat → Int32) (c : Nat → Nat → Int32) (p : Int32) (i : Nat → Int32) (a : Nat → Nat → Int32) (hz : ¬ j 3 ≤ p → vp_in p 256) : am_Ev sZ_byteAt [.ref 30, .int p] (wX i a (wZ j c)) (some (.int (rZ_byteAt j c p))) (wX i a (wZ j c)) := by
  refine am_Ev_of cwZ_byteAt rfl rfl rfl (am_wp_T gdZ_byteAt 400 ?_)
  refine am_split (fun h1 => ?_) (fun h1 => ?_)
  · skip
    exact am_ri (S := sZ_byteAt) (by unfold rZ_byteAt; simp only [if_pos h1]; try rfl) rfl rfl rfl
  · skip
    refine And.intro (by exact hz (by assumption)) ?_
    exact am_ri (S := sZ_byteAt) (by unfold rZ_byteAt; simp only [if_neg h1]; try rfl) rfl rfl rfl
noncomputable def rZ_spoils (j : Nat → Int32) (c : Nat → Nat → Int32) (p q : Int32) : Int32 := if p < (7 : Int32) then if (27 : Int32) ≤ ((q >>> ((7 : Int32) &&& 31)) &&& (31 : Int32)) then if p = (4 : Int32) then if ((q >>> ((7 : Int32) &&& 31)) &&& (31 : Int32)) = (31 : Int32) then if q = (rZ_made (2 : Int32) (31 : Int32) (31 : Int32) (29 : Int32)) then (0 : Int32) else if q = (rZ_made (3 : Int32) (31 : Int32) (31 : Int32) (28 : Int32)) then (0 : Int32) else if (q &&& (-1015809 : Int32)) = (rZ_made (2 : Int32) (31 : Int32) (0 : Int32) (27 : Int32)) then (0 : Int32) else (0 : Int32) else if q = (rZ_made (2 : Int32) (31 : Int32) (31 : Int32) (29 : Int32)) then (0 : Int32) else if q = (rZ_made (3 : Int32) (31 : Int32) (31 : Int32) (28 : Int32)) then (0 : Int32) else if (q &&& (-1015809 : Int32)) = (rZ_made (2 : Int32) (31 : Int32) (0 : Int32) (27 : Int32)) then (0 : Int32) else (1 : Int32) else if q = (rZ_made (2 : Int32) (31 : Int32) (31 : Int32) (29 : Int32)) then (0 : Int32) else if q = (rZ_made (3 : Int32) (31 : Int32) (31 : Int32) (28 : Int32)) then (0 : Int32) else if (q &&& (-1015809 : Int32)) = (rZ_made (2 : Int32) (31 : Int32) (0 : Int32) (27 : Int32)) then (0 : Int32) else (1 : Int32) else (0 : Int32) else if p ≤ (10 : Int32) then (0 : Int32) else if (27 : Int32) ≤ ((q >>> ((7 : Int32) &&& 31)) &&& (31 : Int32)) then if p = (4 : Int32) then if ((q >>> ((7 : Int32) &&& 31)) &&& (31 : Int32)) = (31 : Int32) then if q = (rZ_made (2 : Int32) (31 : Int32) (31 : Int32) (29 : Int32)) then (0 : Int32) else if q = (rZ_made (3 : Int32) (31 : Int32) (31 : Int32) (28 : Int32)) then (0 : Int32) else if (q &&& (-1015809 : Int32)) = (rZ_made (2 : Int32) (31 : Int32) (0 : Int32) (27 : Int32)) then (0 : Int32) else (0 : Int32) else if q = (rZ_made (2 : Int32) (31 : Int32) (31 : Int32) (29 : Int32)) then (0 : Int32) else if q = (rZ_made (3 : Int32) (31 : Int32) (31 : Int32) (28 : Int32)) then (0 : Int32) else if (q &&& (-1015809 : Int32)) = (rZ_made (2 : Int32) (31 : Int32) (0 : Int32) (27 : Int32)) then (0 : Int32) else (1 : Int32) else if q = (rZ_made (2 : Int32) (31 : Int32) (31 : Int32) (29 : Int32)) then (0 : Int32) else if q = (rZ_made (3 : Int32) (31 : Int32) (31 : Int32) (28 : Int32)) then (0 : Int32) else if (q &&& (-1015809 : Int32)) = (rZ_made (2 : Int32) (31 : Int32) (0 : Int32) (27 : Int32)) then (0 : Int32) else (1 : Int32) else (0 : Int32)
set_option maxHeartbeats 4000000 in
set_option maxRecDepth 100000 in
theorem eZ_spoils (j : Nat → Int32) (c : Nat → Nat → Int32) (p q : Int32) (i : Nat → Int32) (a : Nat → Nat → Int32) : am_Ev sZ_spoils [.ref 30, .int p, .int q] (wX i a (wZ j c)) (some (.int (rZ_spoils j c p q))) (wX i a (wZ j c)) := by
  refine am_Ev_of cwZ_spoils rfl rfl rfl (am_wp_T gdZ_spoils 400 ?_)
  refine am_split (fun h1 => ?_) (fun h1 => ?_)
  · skip
    refine am_split (fun hz => absurd hz (by decide)) (fun _ => ?_)
    refine am_split (fun h2 => ?_) (fun h2 => ?_)
    · skip
      refine am_call (eZ_made (2 : Int32) (31 : Int32) (0 : Int32) (27 : Int32) _) ?_
      refine am_split (fun h3 => ?_) (fun h3 => ?_)
      · skip
        refine am_split (fun h4 => ?_) (fun h4 => ?_)
        · skip
          refine am_call (eZ_made (2 : Int32) (31 : Int32) (31 : Int32) (29 : Int32) _) ?_
          refine am_split (fun h5 => ?_) (fun h5 => ?_)
          · skip
            refine am_split (fun hz => absurd hz (by decide)) (fun _ => ?_)
            exact am_ri (S := sZ_spoils) (by unfold rZ_spoils; simp only [if_pos h1, if_pos h2, if_pos h3, if_pos h4, if_pos h5]; try rfl) rfl rfl rfl
          · skip
            refine am_call (eZ_made (3 : Int32) (31 : Int32) (31 : Int32) (28 : Int32) _) ?_
            refine am_split (fun h6 => ?_) (fun h6 => ?_)
            · skip
              refine am_split (fun hz => absurd hz (by decide)) (fun _ => ?_)
              exact am_ri (S := sZ_spoils) (by unfold rZ_spoils; simp only [if_pos h1, if_pos h2, if_pos h3, if_pos h4, if_neg h5, if_pos h6]; try rfl) rfl rfl rfl
            · skip
              refine am_split (fun h7 => ?_) (fun h7 => ?_)
              · skip
                refine am_split (fun hz => absurd hz (by decide)) (fun _ => ?_)
                exact am_ri (S := sZ_spoils) (by unfold rZ_spoils; simp only [if_pos h1, if_pos h2, if_pos h3, if_pos h4, if_neg h5, if_neg h6, if_pos h7]; try rfl) rfl rfl rfl
              · skip
                refine am_split (fun hz => absurd hz (by decide)) (fun _ => ?_)
                exact am_ri (S := sZ_spoils) (by unfold rZ_spoils; simp only [if_pos h1, if_pos h2, if_pos h3, if_pos h4, if_neg h5, if_neg h6, if_neg h7]; try rfl) rfl rfl rfl
        · skip
          refine am_call (eZ_made (2 : Int32) (31 : Int32) (31 : Int32) (29 : Int32) _) ?_
          refine am_split (fun h8 => ?_) (fun h8 => ?_)
          · skip
            refine am_split (fun _ => ?_) (fun hz => absurd (by decide) hz)
            refine am_split (fun hz => absurd hz (by decide)) (fun _ => ?_)
            exact am_ri (S := sZ_spoils) (by unfold rZ_spoils; simp only [if_pos h1, if_pos h2, if_pos h3, if_neg h4, if_pos h8]; try rfl) rfl rfl rfl
          · skip
            refine am_call (eZ_made (3 : Int32) (31 : Int32) (31 : Int32) (28 : Int32) _) ?_
            refine am_split (fun h9 => ?_) (fun h9 => ?_)
            · skip
              refine am_split (fun _ => ?_) (fun hz => absurd (by decide) hz)
              refine am_split (fun hz => absurd hz (by decide)) (fun _ => ?_)
              exact am_ri (S := sZ_spoils) (by unfold rZ_spoils; simp only [if_pos h1, if_pos h2, if_pos h3, if_neg h4, if_neg h8, if_pos h9]; try rfl) rfl rfl rfl
            · skip
              refine am_split (fun h10 => ?_) (fun h10 => ?_)
              · skip
                refine am_split (fun _ => ?_) (fun hz => absurd (by decide) hz)
                refine am_split (fun hz => absurd hz (by decide)) (fun _ => ?_)
                exact am_ri (S := sZ_spoils) (by unfold rZ_spoils; simp only [if_pos h1, if_pos h2, if_pos h3, if_neg h4, if_neg h8, if_neg h9, if_pos h10]; try rfl) rfl rfl rfl
              · skip
                refine am_split (fun _ => ?_) (fun hz => absurd (by decide) hz)
                refine am_split (fun _ => ?_) (fun hz => absurd (by decide) hz)
                exact am_ri (S := sZ_spoils) (by unfold rZ_spoils; simp only [if_pos h1, if_pos h2, if_pos h3, if_neg h4, if_neg h8, if_neg h9, if_neg h10]; try rfl) rfl rfl rfl
      · skip
        refine am_call (eZ_made (2 : Int32) (31 : Int32) (31 : Int32) (29 : Int32) _) ?_
        refine am_split (fun h11 => ?_) (fun h11 => ?_)
        · skip
          refine am_split (fun _ => ?_) (fun hz => absurd (by decide) hz)
          refine am_split (fun hz => absurd hz (by decide)) (fun _ => ?_)
          exact am_ri (S := sZ_spoils) (by unfold rZ_spoils; simp only [if_pos h1, if_pos h2, if_neg h3, if_pos h11]; try rfl) rfl rfl rfl
        · skip
          refine am_call (eZ_made (3 : Int32) (31 : Int32) (31 : Int32) (28 : Int32) _) ?_
          refine am_split (fun h12 => ?_) (fun h12 => ?_)
          · skip
            refine am_split (fun _ => ?_) (fun hz => absurd (by decide) hz)
            refine am_split (fun hz => absurd hz (by decide)) (fun _ => ?_)
            exact am_ri (S := sZ_spoils) (by unfold rZ_spoils; simp only [if_pos h1, if_pos h2, if_neg h3, if_neg h11, if_pos h12]; try rfl) rfl rfl rfl
          · skip
            refine am_split (fun h13 => ?_) (fun h13 => ?_)
            · skip
              refine am_split (fun _ => ?_) (fun hz => absurd (by decide) hz)
              refine am_split (fun hz => absurd hz (by decide)) (fun _ => ?_)
              exact am_ri (S := sZ_spoils) (by unfold rZ_spoils; simp only [if_pos h1, if_pos h2, if_neg h3, if_neg h11, if_neg h12, if_pos h13]; try rfl) rfl rfl rfl
            · skip
              refine am_split (fun _ => ?_) (fun hz => absurd (by decide) hz)
              refine am_split (fun _ => ?_) (fun hz => absurd (by decide) hz)
              exact am_ri (S := sZ_spoils) (by unfold rZ_spoils; simp only [if_pos h1, if_pos h2, if_neg h3, if_neg h11, if_neg h12, if_neg h13]; try rfl) rfl rfl rfl
    · skip
      exact am_ri (S := sZ_spoils) (by unfold rZ_spoils; simp only [if_pos h1, if_neg h2]; try rfl) rfl rfl rfl
  · skip
    refine am_split (fun h14 => ?_) (fun h14 => ?_)
    · skip
      refine am_split (fun _ => ?_) (fun hz => absurd (by decide) hz)
      exact am_ri (S := sZ_spoils) (by unfold rZ_spoils; simp only [if_neg h1, if_pos h14]; try rfl) rfl rfl rfl
    · skip
      refine am_split (fun hz => absurd hz (by decide)) (fun _ => ?_)
      refine am_split (fun h15 => ?_) (fun h15 => ?_)
      · skip
        refine am_call (eZ_made (2 : Int32) (31 : Int32) (0 : Int32) (27 : Int32) _) ?_
        refine am_split (fun h16 => ?_) (fun h16 => ?_)
        · skip
          refine am_split (fun h17 => ?_) (fun h17 => ?_)
          · skip
            refine am_call (eZ_made (2 : Int32) (31 : Int32) (31 : Int32) (29 : Int32) _) ?_
            refine am_split (fun h18 => ?_) (fun h18 => ?_)
            · skip
              refine am_split (fun hz => absurd hz (by decide)) (fun _ => ?_)
              exact am_ri (S := sZ_spoils) (by unfold rZ_spoils; simp only [if_neg h1, if_neg h14, if_pos h15, if_pos h16, if_pos h17, if_pos h18]; try rfl) rfl rfl rfl
            · skip
              refine am_call (eZ_made (3 : Int32) (31 : Int32) (31 : Int32) (28 : Int32) _) ?_
              refine am_split (fun h19 => ?_) (fun h19 => ?_)
              · skip
                refine am_split (fun hz => absurd hz (by decide)) (fun _ => ?_)
                exact am_ri (S := sZ_spoils) (by unfold rZ_spoils; simp only [if_neg h1, if_neg h14, if_pos h15, if_pos h16, if_pos h17, if_neg h18, if_pos h19]; try rfl) rfl rfl rfl
              · skip
                refine am_split (fun h20 => ?_) (fun h20 => ?_)
                · skip
                  refine am_split (fun hz => absurd hz (by decide)) (fun _ => ?_)
                  exact am_ri (S := sZ_spoils) (by unfold rZ_spoils; simp only [if_neg h1, if_neg h14, if_pos h15, if_pos h16, if_pos h17, if_neg h18, if_neg h19, if_pos h20]; try rfl) rfl rfl rfl
                · skip
                  refine am_split (fun hz => absurd hz (by decide)) (fun _ => ?_)
                  exact am_ri (S := sZ_spoils) (by unfold rZ_spoils; simp only [if_neg h1, if_neg h14, if_pos h15, if_pos h16, if_pos h17, if_neg h18, if_neg h19, if_neg h20]; try rfl) rfl rfl rfl
          · skip
            refine am_call (eZ_made (2 : Int32) (31 : Int32) (31 : Int32) (29 : Int32) _) ?_
            refine am_split (fun h21 => ?_) (fun h21 => ?_)
            · skip
              refine am_split (fun _ => ?_) (fun hz => absurd (by decide) hz)
              refine am_split (fun hz => absurd hz (by decide)) (fun _ => ?_)
              exact am_ri (S := sZ_spoils) (by unfold rZ_spoils; simp only [if_neg h1, if_neg h14, if_pos h15, if_pos h16, if_neg h17, if_pos h21]; try rfl) rfl rfl rfl
            · skip
              refine am_call (eZ_made (3 : Int32) (31 : Int32) (31 : Int32) (28 : Int32) _) ?_
              refine am_split (fun h22 => ?_) (fun h22 => ?_)
              · skip
                refine am_split (fun _ => ?_) (fun hz => absurd (by decide) hz)
                refine am_split (fun hz => absurd hz (by decide)) (fun _ => ?_)
                exact am_ri (S := sZ_spoils) (by unfold rZ_spoils; simp only [if_neg h1, if_neg h14, if_pos h15, if_pos h16, if_neg h17, if_neg h21, if_pos h22]; try rfl) rfl rfl rfl
              · skip
                refine am_split (fun h23 => ?_) (fun h23 => ?_)
                · skip
                  refine am_split (fun _ => ?_) (fun hz => absurd (by decide) hz)
                  refine am_split (fun hz => absurd hz (by decide)) (fun _ => ?_)
                  exact am_ri (S := sZ_spoils) (by unfold rZ_spoils; simp only [if_neg h1, if_neg h14, if_pos h15, if_pos h16, if_neg h17, if_neg h21, if_neg h22, if_pos h23]; try rfl) rfl rfl rfl
                · skip
                  refine am_split (fun _ => ?_) (fun hz => absurd (by decide) hz)
                  refine am_split (fun _ => ?_) (fun hz => absurd (by decide) hz)
                  exact am_ri (S := sZ_spoils) (by unfold rZ_spoils; simp only [if_neg h1, if_neg h14, if_pos h15, if_pos h16, if_neg h17, if_neg h21, if_neg h22, if_neg h23]; try rfl) rfl rfl rfl
        · skip
          refine am_call (eZ_made (2 : Int32) (31 : Int32) (31 : Int32) (29 : Int32) _) ?_
          refine am_split (fun h24 => ?_) (fun h24 => ?_)
          · skip
            refine am_split (fun _ => ?_) (fun hz => absurd (by decide) hz)
            refine am_split (fun hz => absurd hz (by decide)) (fun _ => ?_)
            exact am_ri (S := sZ_spoils) (by unfold rZ_spoils; simp only [if_neg h1, if_neg h14, if_pos h15, if_neg h16, if_pos h24]; try rfl) rfl rfl rfl
          · skip
            refine am_call (eZ_made (3 : Int32) (31 : Int32) (31 : Int32) (28 : Int32) _) ?_
            refine am_split (fun h25 => ?_) (fun h25 => ?_)
            · skip
              refine am_split (fun _ => ?_) (fun hz => absurd (by decide) hz)
              refine am_split (fun hz => absurd hz (by decide)) (fun _ => ?_)
              exact am_ri (S := sZ_spoils) (by unfold rZ_spoils; simp only [if_neg h1, if_neg h14, if_pos h15, if_neg h16, if_neg h24, if_pos h25]; try rfl) rfl rfl rfl
            · skip
              refine am_split (fun h26 => ?_) (fun h26 => ?_)
              · skip
                refine am_split (fun _ => ?_) (fun hz => absurd (by decide) hz)
                refine am_split (fun hz => absurd hz (by decide)) (fun _ => ?_)
                exact am_ri (S := sZ_spoils) (by unfold rZ_spoils; simp only [if_neg h1, if_neg h14, if_pos h15, if_neg h16, if_neg h24, if_neg h25, if_pos h26]; try rfl) rfl rfl rfl
              · skip
                refine am_split (fun _ => ?_) (fun hz => absurd (by decide) hz)
                refine am_split (fun _ => ?_) (fun hz => absurd (by decide) hz)
                exact am_ri (S := sZ_spoils) (by unfold rZ_spoils; simp only [if_neg h1, if_neg h14, if_pos h15, if_neg h16, if_neg h24, if_neg h25, if_neg h26]; try rfl) rfl rfl rfl
      · skip
        exact am_ri (S := sZ_spoils) (by unfold rZ_spoils; simp only [if_neg h1, if_neg h14, if_neg h15]; try rfl) rfl rfl rfl
theorem zoZ_spoils (j : Nat → Int32) (c : Nat → Nat → Int32) (p q : Int32) : rZ_spoils j c p q = 0 ∨ rZ_spoils j c p q = 1 := by
  unfold rZ_spoils
  repeat' (first | with_reducible refine zo_ite ?_ ?_ | with_reducible exact Or.inl rfl | with_reducible exact Or.inr rfl)
noncomputable def rZ_input (j : Nat → Int32) (c : Nat → Nat → Int32) (p : Int32) : Int32 := if (j 5) = (20 : Int32) then (-2 : Int32) else ((j 5) + (1 : Int32))
noncomputable def iZ_input (j : Nat → Int32) (c : Nat → Nat → Int32) (p : Int32) : Nat → Int32 := if (j 5) = (20 : Int32) then j else (sI j ((j 5) + (1 : Int32)) 5)
noncomputable def aZ_input (j : Nat → Int32) (c : Nat → Nat → Int32) (p : Int32) : Nat → Nat → Int32 := if (j 5) = (20 : Int32) then c else (sA c (upd (c 13) (Int32.toNatClampNeg (j 5)) p) 13)
set_option maxHeartbeats 4000000 in
set_option maxRecDepth 100000 in
theorem eZ_input (j : Nat → Int32) (c : Nat → Nat → Int32) (p : Int32) (i : Nat → Int32) (a : Nat → Nat → Int32) (hl : ¬ j 5 = 20 → vp_in (j 5) 20) : am_Ev sZ_input [.ref 30, .int p] (wX i a (wZ j c)) (some (.int (rZ_input j c p))) (wX i a (wZ (iZ_input j c p) (aZ_input j c p))) := by
  refine am_Ev_of cwZ_input rfl rfl rfl (am_wp_T gdZ_input 400 ?_)
  refine am_split (fun h1 => ?_) (fun h1 => ?_)
  · skip
    exact am_ri (S := sZ_input) (by unfold rZ_input; simp only [if_pos h1]; try rfl) (by unfold iZ_input aZ_input; simp only [if_pos h1]; try rfl) rfl rfl
  · skip
    refine And.intro (by exact hl (by assumption)) ?_
    exact am_ri (S := sZ_input) (by unfold rZ_input; simp only [if_neg h1]; try rfl) (by unfold iZ_input aZ_input; simp only [if_neg h1]; try rfl) rfl rfl
noncomputable def aZ_set0 (j : Nat → Int32) (c : Nat → Nat → Int32) (q r : Int32) : Nat → Nat → Int32 := if q = (0 : Int32) then (sA c (upd (c 14) (Int32.toNatClampNeg (((32 : Int32) * (0 : Int32)) + q)) (0 : Int32)) 14) else (sA c (upd (c 14) (Int32.toNatClampNeg (((32 : Int32) * (0 : Int32)) + q)) r) 14)
set_option maxHeartbeats 4000000 in
set_option maxRecDepth 100000 in
theorem eZ_set0 (j : Nat → Int32) (c : Nat → Nat → Int32) (q r : Int32) (i : Nat → Int32) (a : Nat → Nat → Int32) (hr : inR q) : am_Ev sZ_set [.ref 30, .int (0 : Int32), .int q, .int r] (wX i a (wZ j c)) none (wX i a (wZ j (aZ_set0 j c q r))) := by
  refine am_Ev_of cwZ_set rfl rfl rfl (am_wp_T gdZ_set 400 ?_)
  refine am_split (fun h1 => ?_) (fun h1 => ?_)
  · skip
    refine And.intro (by exact in_rg0 hr) ?_
    exact am_rv (S := sZ_set) (by unfold aZ_set0; simp only [if_pos h1]; try rfl) rfl
  · skip
    refine And.intro (by exact in_rg0 hr) ?_
    exact am_rv (S := sZ_set) (by unfold aZ_set0; simp only [if_neg h1]; try rfl) rfl
noncomputable def rZ_get0 (j : Nat → Int32) (c : Nat → Nat → Int32) (q : Int32) : Int32 := ((c 14) (Int32.toNatClampNeg (((32 : Int32) * (0 : Int32)) + q)))
set_option maxHeartbeats 4000000 in
set_option maxRecDepth 100000 in
theorem eZ_get0 (j : Nat → Int32) (c : Nat → Nat → Int32) (q : Int32) (i : Nat → Int32) (a : Nat → Nat → Int32) (hr : inR q) : am_Ev sZ_get [.ref 30, .int (0 : Int32), .int q] (wX i a (wZ j c)) (some (.int (rZ_get0 j c q))) (wX i a (wZ j c)) := by
  refine am_Ev_of cwZ_get rfl rfl rfl (am_wp_T gdZ_get 400 ?_)
  refine And.intro (by exact in_rg0 hr) ?_
  exact am_ri (S := sZ_get) rfl rfl rfl rfl
noncomputable def iZ_serve0 (j : Nat → Int32) (c : Nat → Nat → Int32) (q : Int32) : Nat → Int32 := if q = (0 : Int32) then if (j 5) ≤ (j 6) then (sI j (j 6) 6) else (sI j ((j 6) + (1 : Int32)) 6) else if (40 : Int32) ≤ ((c 17) (Int32.toNatClampNeg (0 : Int32))) then j else j
noncomputable def aZ_serve0 (j : Nat → Int32) (c : Nat → Nat → Int32) (q : Int32) : Nat → Nat → Int32 := if q = (0 : Int32) then if (j 5) ≤ (j 6) then (aZ_set0 j c (10 : Int32) (-1 : Int32)) else (aZ_set0 j c (10 : Int32) ((c 13) (Int32.toNatClampNeg (j 6)))) else if (40 : Int32) ≤ ((c 17) (Int32.toNatClampNeg (0 : Int32))) then c else (sA (sA c (upd (c 16) (Int32.toNatClampNeg (((40 : Int32) * (0 : Int32)) + ((c 17) (Int32.toNatClampNeg (0 : Int32))))) (rZ_get0 j c (10 : Int32))) 16) (upd (c 17) (Int32.toNatClampNeg (0 : Int32)) (((c 17) (Int32.toNatClampNeg (0 : Int32))) + (1 : Int32))) 17)
set_option maxHeartbeats 4000000 in
set_option maxRecDepth 100000 in
theorem eZ_serve0 (j : Nat → Int32) (c : Nat → Nat → Int32) (q : Int32) (i : Nat → Int32) (a : Nat → Nat → Int32) (hi : ¬ j 5 ≤ j 6 → vp_in (j 6) 20) (ho : ¬ (40 : Int32) ≤ c 17 (Int32.toNatClampNeg (0 : Int32)) → vp_in (((40 : Int32) * (0 : Int32)) + c 17 (Int32.toNatClampNeg (0 : Int32))) 80) : am_Ev sZ_serve [.ref 30, .int (0 : Int32), .int q] (wX i a (wZ j c)) none (wX i a (wZ (iZ_serve0 j c q) (aZ_serve0 j c q))) := by
  refine am_Ev_of cwZ_serve rfl rfl rfl (am_wp_T gdZ_serve 400 ?_)
  refine am_split (fun h1 => ?_) (fun h1 => ?_)
  · skip
    refine am_split (fun h2 => ?_) (fun h2 => ?_)
    · skip
      refine am_call (eZ_set0 j c (10 : Int32) (-1 : Int32) i a  (by first | assumption | exact ⟨by decide, by decide⟩)) ?_
      refine am_split (fun _ => ?_) (fun hz => absurd h2 hz)
      exact am_rv (S := sZ_serve) (by unfold iZ_serve0 aZ_serve0; simp only [if_pos h1, if_pos h2]; try rfl) rfl
    · skip
      refine And.intro (by first | exact hi (by assumption) | exact ho (by assumption)) ?_
      refine am_call (eZ_set0 j c (10 : Int32) ((c 13) (Int32.toNatClampNeg (j 6))) i a  (by first | assumption | exact ⟨by decide, by decide⟩)) ?_
      refine am_split (fun hz => absurd hz h2) (fun _ => ?_)
      exact am_rv (S := sZ_serve) (by unfold iZ_serve0 aZ_serve0; simp only [if_pos h1, if_neg h2]; try rfl) rfl
  · skip
    refine And.intro (by exact vp_lit rfl) ?_
    refine am_split (fun h3 => ?_) (fun h3 => ?_)
    · skip
      exact am_rv (S := sZ_serve) (by unfold iZ_serve0 aZ_serve0; simp only [if_neg h1, if_pos h3]; try rfl) rfl
    · skip
      refine And.intro (by exact vp_lit rfl) ?_
      refine am_call (eZ_get0 j c (10 : Int32) i a  (by first | assumption | exact ⟨by decide, by decide⟩)) ?_
      refine And.intro (by first | exact hi (by assumption) | exact ho (by assumption)) ?_
      refine And.intro (by exact vp_lit rfl) ?_
      refine And.intro (by exact vp_lit rfl) ?_
      exact am_rv (S := sZ_serve) (by unfold iZ_serve0 aZ_serve0; simp only [if_neg h1, if_neg h3]; try rfl) rfl
noncomputable def rZ_holds0 (j : Nat → Int32) (c : Nat → Nat → Int32) (q r s : Int32) : Int32 := if q = (8 : Int32) then if (rZ_get0 j c r) = (rZ_get0 j c s) then (1 : Int32) else (0 : Int32) else if q = (9 : Int32) then if (rZ_get0 j c r) = (rZ_get0 j c s) then (0 : Int32) else (1 : Int32) else if (rZ_get0 j c s) ≤ (rZ_get0 j c r) then (0 : Int32) else (1 : Int32)
set_option maxHeartbeats 4000000 in
set_option maxRecDepth 100000 in
theorem eZ_holds0 (j : Nat → Int32) (c : Nat → Nat → Int32) (q r s : Int32) (i : Nat → Int32) (a : Nat → Nat → Int32) (ha : inR r) (hb : inR s) : am_Ev sZ_holds [.ref 30, .int (0 : Int32), .int q, .int r, .int s] (wX i a (wZ j c)) (some (.int (rZ_holds0 j c q r s))) (wX i a (wZ j c)) := by
  refine am_Ev_of cwZ_holds rfl rfl rfl (am_wp_T gdZ_holds 400 ?_)
  refine am_call (eZ_get0 j c r i a  (by assumption)) ?_
  refine am_call (eZ_get0 j c s i a  (by assumption)) ?_
  refine am_split (fun h1 => ?_) (fun h1 => ?_)
  · skip
    refine am_split (fun h2 => ?_) (fun h2 => ?_)
    · skip
      exact am_ri (S := sZ_holds) (by unfold rZ_holds0; simp only [if_pos h1, if_pos h2]; try rfl) rfl rfl rfl
    · skip
      exact am_ri (S := sZ_holds) (by unfold rZ_holds0; simp only [if_pos h1, if_neg h2]; try rfl) rfl rfl rfl
  · skip
    refine am_split (fun h3 => ?_) (fun h3 => ?_)
    · skip
      refine am_split (fun h4 => ?_) (fun h4 => ?_)
      · skip
        exact am_ri (S := sZ_holds) (by unfold rZ_holds0; simp only [if_neg h1, if_pos h3, if_pos h4]; try rfl) rfl rfl rfl
      · skip
        exact am_ri (S := sZ_holds) (by unfold rZ_holds0; simp only [if_neg h1, if_pos h3, if_neg h4]; try rfl) rfl rfl rfl
    · skip
      refine am_split (fun h5 => ?_) (fun h5 => ?_)
      · skip
        exact am_ri (S := sZ_holds) (by unfold rZ_holds0; simp only [if_neg h1, if_neg h3, if_pos h5]; try rfl) rfl rfl rfl
      · skip
        exact am_ri (S := sZ_holds) (by unfold rZ_holds0; simp only [if_neg h1, if_neg h3, if_neg h5]; try rfl) rfl rfl rfl
theorem zoZ_holds0 (j : Nat → Int32) (c : Nat → Nat → Int32) (q r s : Int32) : rZ_holds0 j c q r s = 0 ∨ rZ_holds0 j c q r s = 1 := by
  unfold rZ_holds0
  repeat' (first | with_reducible refine zo_ite ?_ ?_ | with_reducible exact Or.inl rfl | with_reducible exact Or.inr rfl)
noncomputable def aZ_reckon0 (j : Nat → Int32) (c : Nat → Nat → Int32) (q r s t : Int32) : Nat → Nat → Int32 := if q = (5 : Int32) then (aZ_set0 j c r (s <<< ((12 : Int32) &&& 31))) else if q = (13 : Int32) then (aZ_set0 j c r ((rZ_get0 j c r) + s)) else if q = (14 : Int32) then (aZ_set0 j c r (rZ_get0 j c s)) else if q = (4 : Int32) then if q = (0 : Int32) then (aZ_set0 j c r ((rZ_get0 j c s) + t)) else (aZ_set0 j c r ((rZ_get0 j c s) + t)) else if q = (0 : Int32) then (aZ_set0 j c r ((rZ_get0 j c s) + (rZ_get0 j c t))) else if q = (1 : Int32) then (aZ_set0 j c r ((rZ_get0 j c s) - (rZ_get0 j c t))) else if q = (2 : Int32) then (aZ_set0 j c r ((rZ_get0 j c s) &&& (rZ_get0 j c t))) else (aZ_set0 j c r ((rZ_get0 j c s) ||| (rZ_get0 j c t)))
set_option maxHeartbeats 4000000 in
set_option maxRecDepth 100000 in
theorem eZ_reckon0 (j : Nat → Int32) (c : Nat → Nat → Int32) (q r s t : Int32) (i : Nat → Int32) (a : Nat → Nat → Int32) (ha : inR r) (hb : ¬ q = 5 → ¬ q = 13 → inR s) (hc : ¬ q = 5 → ¬ q = 13 → ¬ q = 14 → ¬ q = 4 → inR t) : am_Ev sZ_reckon [.ref 30, .int (0 : Int32), .int q, .int r, .int s, .int t] (wX i a (wZ j c)) none (wX i a (wZ j (aZ_reckon0 j c q r s t))) := by
  refine am_Ev_of cwZ_reckon rfl rfl rfl (am_wp_T gdZ_reckon 400 ?_)
  refine am_split (fun h1 => ?_) (fun h1 => ?_)
  · skip
    refine am_call (eZ_set0 j c r (s <<< ((12 : Int32) &&& 31)) i a  (by first | assumption | exact hb (by assumption) (by assumption) | exact hc (by assumption) (by assumption) (by assumption) (by assumption))) ?_
    exact am_rv (S := sZ_reckon) (by unfold aZ_reckon0; simp only [if_pos h1]; try rfl) rfl
  · skip
    refine am_split (fun h2 => ?_) (fun h2 => ?_)
    · skip
      refine am_call (eZ_get0 j c r i a  (by first | assumption | exact hb (by assumption) (by assumption) | exact hc (by assumption) (by assumption) (by assumption) (by assumption))) ?_
      refine am_call (eZ_set0 j c r ((rZ_get0 j c r) + s) i a  (by first | assumption | exact hb (by assumption) (by assumption) | exact hc (by assumption) (by assumption) (by assumption) (by assumption))) ?_
      exact am_rv (S := sZ_reckon) (by unfold aZ_reckon0; simp only [if_neg h1, if_pos h2]; try rfl) rfl
    · skip
      refine am_split (fun h3 => ?_) (fun h3 => ?_)
      · skip
        refine am_call (eZ_get0 j c s i a  (by first | assumption | exact hb (by assumption) (by assumption) | exact hc (by assumption) (by assumption) (by assumption) (by assumption))) ?_
        refine am_call (eZ_set0 j c r (rZ_get0 j c s) i a  (by first | assumption | exact hb (by assumption) (by assumption) | exact hc (by assumption) (by assumption) (by assumption) (by assumption))) ?_
        exact am_rv (S := sZ_reckon) (by unfold aZ_reckon0; simp only [if_neg h1, if_neg h2, if_pos h3]; try rfl) rfl
      · skip
        refine am_call (eZ_get0 j c s i a  (by first | assumption | exact hb (by assumption) (by assumption) | exact hc (by assumption) (by assumption) (by assumption) (by assumption))) ?_
        refine am_split (fun h4 => ?_) (fun h4 => ?_)
        · skip
          refine am_split (fun h5 => ?_) (fun h5 => ?_)
          · skip
            refine am_call (eZ_set0 j c r ((rZ_get0 j c s) + t) i a  (by first | assumption | exact hb (by assumption) (by assumption) | exact hc (by assumption) (by assumption) (by assumption) (by assumption))) ?_
            exact am_rv (S := sZ_reckon) (by unfold aZ_reckon0; simp only [if_neg h1, if_neg h2, if_neg h3, if_pos h4, if_pos h5]; try rfl) rfl
          · skip
            refine am_split (fun _ => ?_) (fun hz => absurd h4 hz)
            refine am_call (eZ_set0 j c r ((rZ_get0 j c s) + t) i a  (by first | assumption | exact hb (by assumption) (by assumption) | exact hc (by assumption) (by assumption) (by assumption) (by assumption))) ?_
            exact am_rv (S := sZ_reckon) (by unfold aZ_reckon0; simp only [if_neg h1, if_neg h2, if_neg h3, if_pos h4, if_neg h5]; try rfl) rfl
        · skip
          refine am_call (eZ_get0 j c t i a  (by first | assumption | exact hb (by assumption) (by assumption) | exact hc (by assumption) (by assumption) (by assumption) (by assumption))) ?_
          refine am_split (fun h6 => ?_) (fun h6 => ?_)
          · skip
            refine am_call (eZ_set0 j c r ((rZ_get0 j c s) + (rZ_get0 j c t)) i a  (by first | assumption | exact hb (by assumption) (by assumption) | exact hc (by assumption) (by assumption) (by assumption) (by assumption))) ?_
            exact am_rv (S := sZ_reckon) (by unfold aZ_reckon0; simp only [if_neg h1, if_neg h2, if_neg h3, if_neg h4, if_pos h6]; try rfl) rfl
          · skip
            refine am_split (fun hz => absurd hz h4) (fun _ => ?_)
            refine am_split (fun h7 => ?_) (fun h7 => ?_)
            · skip
              refine am_call (eZ_set0 j c r ((rZ_get0 j c s) - (rZ_get0 j c t)) i a  (by first | assumption | exact hb (by assumption) (by assumption) | exact hc (by assumption) (by assumption) (by assumption) (by assumption))) ?_
              exact am_rv (S := sZ_reckon) (by unfold aZ_reckon0; simp only [if_neg h1, if_neg h2, if_neg h3, if_neg h4, if_neg h6, if_pos h7]; try rfl) rfl
            · skip
              refine am_split (fun h8 => ?_) (fun h8 => ?_)
              · skip
                refine am_call (eZ_set0 j c r ((rZ_get0 j c s) &&& (rZ_get0 j c t)) i a  (by first | assumption | exact hb (by assumption) (by assumption) | exact hc (by assumption) (by assumption) (by assumption) (by assumption))) ?_
                exact am_rv (S := sZ_reckon) (by unfold aZ_reckon0; simp only [if_neg h1, if_neg h2, if_neg h3, if_neg h4, if_neg h6, if_neg h7, if_pos h8]; try rfl) rfl
              · skip
                refine am_call (eZ_set0 j c r ((rZ_get0 j c s) ||| (rZ_get0 j c t)) i a  (by first | assumption | exact hb (by assumption) (by assumption) | exact hc (by assumption) (by assumption) (by assumption) (by assumption))) ?_
                exact am_rv (S := sZ_reckon) (by unfold aZ_reckon0; simp only [if_neg h1, if_neg h2, if_neg h3, if_neg h4, if_neg h6, if_neg h7, if_neg h8]; try rfl) rfl
noncomputable def aZ_set1 (j : Nat → Int32) (c : Nat → Nat → Int32) (q r : Int32) : Nat → Nat → Int32 := if q = (0 : Int32) then (sA c (upd (c 14) (Int32.toNatClampNeg (((32 : Int32) * (1 : Int32)) + q)) (0 : Int32)) 14) else (sA c (upd (c 14) (Int32.toNatClampNeg (((32 : Int32) * (1 : Int32)) + q)) r) 14)
set_option maxHeartbeats 4000000 in
set_option maxRecDepth 100000 in
theorem eZ_set1 (j : Nat → Int32) (c : Nat → Nat → Int32) (q r : Int32) (i : Nat → Int32) (a : Nat → Nat → Int32) (hr : inR q) : am_Ev sZ_set [.ref 30, .int (1 : Int32), .int q, .int r] (wX i a (wZ j c)) none (wX i a (wZ j (aZ_set1 j c q r))) := by
  refine am_Ev_of cwZ_set rfl rfl rfl (am_wp_T gdZ_set 400 ?_)
  refine am_split (fun h1 => ?_) (fun h1 => ?_)
  · skip
    refine And.intro (by exact in_rg1 hr) ?_
    exact am_rv (S := sZ_set) (by unfold aZ_set1; simp only [if_pos h1]; try rfl) rfl
  · skip
    refine And.intro (by exact in_rg1 hr) ?_
    exact am_rv (S := sZ_set) (by unfold aZ_set1; simp only [if_neg h1]; try rfl) rfl
noncomputable def rZ_get1 (j : Nat → Int32) (c : Nat → Nat → Int32) (q : Int32) : Int32 := ((c 14) (Int32.toNatClampNeg (((32 : Int32) * (1 : Int32)) + q)))
set_option maxHeartbeats 4000000 in
set_option maxRecDepth 100000 in
theorem eZ_get1 (j : Nat → Int32) (c : Nat → Nat → Int32) (q : Int32) (i : Nat → Int32) (a : Nat → Nat → Int32) (hr : inR q) : am_Ev sZ_get [.ref 30, .int (1 : Int32), .int q] (wX i a (wZ j c)) (some (.int (rZ_get1 j c q))) (wX i a (wZ j c)) := by
  refine am_Ev_of cwZ_get rfl rfl rfl (am_wp_T gdZ_get 400 ?_)
  refine And.intro (by exact in_rg1 hr) ?_
  exact am_ri (S := sZ_get) rfl rfl rfl rfl
noncomputable def iZ_serve1 (j : Nat → Int32) (c : Nat → Nat → Int32) (q : Int32) : Nat → Int32 := if q = (0 : Int32) then if (j 5) ≤ (j 6) then (sI j (j 6) 6) else (sI j ((j 6) + (1 : Int32)) 6) else if (40 : Int32) ≤ ((c 17) (Int32.toNatClampNeg (1 : Int32))) then j else j
noncomputable def aZ_serve1 (j : Nat → Int32) (c : Nat → Nat → Int32) (q : Int32) : Nat → Nat → Int32 := if q = (0 : Int32) then if (j 5) ≤ (j 6) then (aZ_set1 j c (10 : Int32) (-1 : Int32)) else (aZ_set1 j c (10 : Int32) ((c 13) (Int32.toNatClampNeg (j 6)))) else if (40 : Int32) ≤ ((c 17) (Int32.toNatClampNeg (1 : Int32))) then c else (sA (sA c (upd (c 16) (Int32.toNatClampNeg (((40 : Int32) * (1 : Int32)) + ((c 17) (Int32.toNatClampNeg (1 : Int32))))) (rZ_get1 j c (10 : Int32))) 16) (upd (c 17) (Int32.toNatClampNeg (1 : Int32)) (((c 17) (Int32.toNatClampNeg (1 : Int32))) + (1 : Int32))) 17)
set_option maxHeartbeats 4000000 in
set_option maxRecDepth 100000 in
theorem eZ_serve1 (j : Nat → Int32) (c : Nat → Nat → Int32) (q : Int32) (i : Nat → Int32) (a : Nat → Nat → Int32) (hi : ¬ j 5 ≤ j 6 → vp_in (j 6) 20) (ho : ¬ (40 : Int32) ≤ c 17 (Int32.toNatClampNeg (1 : Int32)) → vp_in (((40 : Int32) * (1 : Int32)) + c 17 (Int32.toNatClampNeg (1 : Int32))) 80) : am_Ev sZ_serve [.ref 30, .int (1 : Int32), .int q] (wX i a (wZ j c)) none (wX i a (wZ (iZ_serve1 j c q) (aZ_serve1 j c q))) := by
  refine am_Ev_of cwZ_serve rfl rfl rfl (am_wp_T gdZ_serve 400 ?_)
  refine am_split (fun h1 => ?_) (fun h1 => ?_)
  · skip
    refine am_split (fun h2 => ?_) (fun h2 => ?_)
    · skip
      refine am_call (eZ_set1 j c (10 : Int32) (-1 : Int32) i a  (by first | assumption | exact ⟨by decide, by decide⟩)) ?_
      refine am_split (fun _ => ?_) (fun hz => absurd h2 hz)
      exact am_rv (S := sZ_serve) (by unfold iZ_serve1 aZ_serve1; simp only [if_pos h1, if_pos h2]; try rfl) rfl
    · skip
      refine And.intro (by first | exact hi (by assumption) | exact ho (by assumption)) ?_
      refine am_call (eZ_set1 j c (10 : Int32) ((c 13) (Int32.toNatClampNeg (j 6))) i a  (by first | assumption | exact ⟨by decide, by decide⟩)) ?_
      refine am_split (fun hz => absurd hz h2) (fun _ => ?_)
      exact am_rv (S := sZ_serve) (by unfold iZ_serve1 aZ_serve1; simp only [if_pos h1, if_neg h2]; try rfl) rfl
  · skip
    refine And.intro (by exact vp_lit rfl) ?_
    refine am_split (fun h3 => ?_) (fun h3 => ?_)
    · skip
      exact am_rv (S := sZ_serve) (by unfold iZ_serve1 aZ_serve1; simp only [if_neg h1, if_pos h3]; try rfl) rfl
    · skip
      refine And.intro (by exact vp_lit rfl) ?_
      refine am_call (eZ_get1 j c (10 : Int32) i a  (by first | assumption | exact ⟨by decide, by decide⟩)) ?_
      refine And.intro (by first | exact hi (by assumption) | exact ho (by assumption)) ?_
      refine And.intro (by exact vp_lit rfl) ?_
      refine And.intro (by exact vp_lit rfl) ?_
      exact am_rv (S := sZ_serve) (by unfold iZ_serve1 aZ_serve1; simp only [if_neg h1, if_neg h3]; try rfl) rfl
noncomputable def rZ_holds1 (j : Nat → Int32) (c : Nat → Nat → Int32) (q r s : Int32) : Int32 := if q = (8 : Int32) then if (rZ_get1 j c r) = (rZ_get1 j c s) then (1 : Int32) else (0 : Int32) else if q = (9 : Int32) then if (rZ_get1 j c r) = (rZ_get1 j c s) then (0 : Int32) else (1 : Int32) else if (rZ_get1 j c s) ≤ (rZ_get1 j c r) then (0 : Int32) else (1 : Int32)
set_option maxHeartbeats 4000000 in
set_option maxRecDepth 100000 in
theorem eZ_holds1 (j : Nat → Int32) (c : Nat → Nat → Int32) (q r s : Int32) (i : Nat → Int32) (a : Nat → Nat → Int32) (ha : inR r) (hb : inR s) : am_Ev sZ_holds [.ref 30, .int (1 : Int32), .int q, .int r, .int s] (wX i a (wZ j c)) (some (.int (rZ_holds1 j c q r s))) (wX i a (wZ j c)) := by
  refine am_Ev_of cwZ_holds rfl rfl rfl (am_wp_T gdZ_holds 400 ?_)
  refine am_call (eZ_get1 j c r i a  (by assumption)) ?_
  refine am_call (eZ_get1 j c s i a  (by assumption)) ?_
  refine am_split (fun h1 => ?_) (fun h1 => ?_)
  · skip
    refine am_split (fun h2 => ?_) (fun h2 => ?_)
    · skip
      exact am_ri (S := sZ_holds) (by unfold rZ_holds1; simp only [if_pos h1, if_pos h2]; try rfl) rfl rfl rfl
    · skip
      exact am_ri (S := sZ_holds) (by unfold rZ_holds1; simp only [if_pos h1, if_neg h2]; try rfl) rfl rfl rfl
  · skip
    refine am_split (fun h3 => ?_) (fun h3 => ?_)
    · skip
      refine am_split (fun h4 => ?_) (fun h4 => ?_)
      · skip
        exact am_ri (S := sZ_holds) (by unfold rZ_holds1; simp only [if_neg h1, if_pos h3, if_pos h4]; try rfl) rfl rfl rfl
      · skip
        exact am_ri (S := sZ_holds) (by unfold rZ_holds1; simp only [if_neg h1, if_pos h3, if_neg h4]; try rfl) rfl rfl rfl
    · skip
      refine am_split (fun h5 => ?_) (fun h5 => ?_)
      · skip
        exact am_ri (S := sZ_holds) (by unfold rZ_holds1; simp only [if_neg h1, if_neg h3, if_pos h5]; try rfl) rfl rfl rfl
      · skip
        exact am_ri (S := sZ_holds) (by unfold rZ_holds1; simp only [if_neg h1, if_neg h3, if_neg h5]; try rfl) rfl rfl rfl
theorem zoZ_holds1 (j : Nat → Int32) (c : Nat → Nat → Int32) (q r s : Int32) : rZ_holds1 j c q r s = 0 ∨ rZ_holds1 j c q r s = 1 := by
  unfold rZ_holds1
  repeat' (first | with_reducible refine zo_ite ?_ ?_ | with_reducible exact Or.inl rfl | with_reducible exact Or.inr rfl)
noncomputable def aZ_reckon1 (j : Nat → Int32) (c : Nat → Nat → Int32) (q r s t : Int32) : Nat → Nat → Int32 := if q = (5 : Int32) then (aZ_set1 j c r (s <<< ((12 : Int32) &&& 31))) else if q = (13 : Int32) then (aZ_set1 j c r ((rZ_get1 j c r) + s)) else if q = (14 : Int32) then (aZ_set1 j c r (rZ_get1 j c s)) else if q = (4 : Int32) then if q = (0 : Int32) then (aZ_set1 j c r ((rZ_get1 j c s) + t)) else (aZ_set1 j c r ((rZ_get1 j c s) + t)) else if q = (0 : Int32) then (aZ_set1 j c r ((rZ_get1 j c s) + (rZ_get1 j c t))) else if q = (1 : Int32) then (aZ_set1 j c r ((rZ_get1 j c s) - (rZ_get1 j c t))) else if q = (2 : Int32) then (aZ_set1 j c r ((rZ_get1 j c s) &&& (rZ_get1 j c t))) else (aZ_set1 j c r ((rZ_get1 j c s) ||| (rZ_get1 j c t)))
set_option maxHeartbeats 4000000 in
set_option maxRecDepth 100000 in
theorem eZ_reckon1 (j : Nat → Int32) (c : Nat → Nat → Int32) (q r s t : Int32) (i : Nat → Int32) (a : Nat → Nat → Int32) (ha : inR r) (hb : ¬ q = 5 → ¬ q = 13 → inR s) (hc : ¬ q = 5 → ¬ q = 13 → ¬ q = 14 → ¬ q = 4 → inR t) : am_Ev sZ_reckon [.ref 30, .int (1 : Int32), .int q, .int r, .int s, .int t] (wX i a (wZ j c)) none (wX i a (wZ j (aZ_reckon1 j c q r s t))) := by
  refine am_Ev_of cwZ_reckon rfl rfl rfl (am_wp_T gdZ_reckon 400 ?_)
  refine am_split (fun h1 => ?_) (fun h1 => ?_)
  · skip
    refine am_call (eZ_set1 j c r (s <<< ((12 : Int32) &&& 31)) i a  (by first | assumption | exact hb (by assumption) (by assumption) | exact hc (by assumption) (by assumption) (by assumption) (by assumption))) ?_
    exact am_rv (S := sZ_reckon) (by unfold aZ_reckon1; simp only [if_pos h1]; try rfl) rfl
  · skip
    refine am_split (fun h2 => ?_) (fun h2 => ?_)
    · skip
      refine am_call (eZ_get1 j c r i a  (by first | assumption | exact hb (by assumption) (by assumption) | exact hc (by assumption) (by assumption) (by assumption) (by assumption))) ?_
      refine am_call (eZ_set1 j c r ((rZ_get1 j c r) + s) i a  (by first | assumption | exact hb (by assumption) (by assumption) | exact hc (by assumption) (by assumption) (by assumption) (by assumption))) ?_
      exact am_rv (S := sZ_reckon) (by unfold aZ_reckon1; simp only [if_neg h1, if_pos h2]; try rfl) rfl
    · skip
      refine am_split (fun h3 => ?_) (fun h3 => ?_)
      · skip
        refine am_call (eZ_get1 j c s i a  (by first | assumption | exact hb (by assumption) (by assumption) | exact hc (by assumption) (by assumption) (by assumption) (by assumption))) ?_
        refine am_call (eZ_set1 j c r (rZ_get1 j c s) i a  (by first | assumption | exact hb (by assumption) (by assumption) | exact hc (by assumption) (by assumption) (by assumption) (by assumption))) ?_
        exact am_rv (S := sZ_reckon) (by unfold aZ_reckon1; simp only [if_neg h1, if_neg h2, if_pos h3]; try rfl) rfl
      · skip
        refine am_call (eZ_get1 j c s i a  (by first | assumption | exact hb (by assumption) (by assumption) | exact hc (by assumption) (by assumption) (by assumption) (by assumption))) ?_
        refine am_split (fun h4 => ?_) (fun h4 => ?_)
        · skip
          refine am_split (fun h5 => ?_) (fun h5 => ?_)
          · skip
            refine am_call (eZ_set1 j c r ((rZ_get1 j c s) + t) i a  (by first | assumption | exact hb (by assumption) (by assumption) | exact hc (by assumption) (by assumption) (by assumption) (by assumption))) ?_
            exact am_rv (S := sZ_reckon) (by unfold aZ_reckon1; simp only [if_neg h1, if_neg h2, if_neg h3, if_pos h4, if_pos h5]; try rfl) rfl
          · skip
            refine am_split (fun _ => ?_) (fun hz => absurd h4 hz)
            refine am_call (eZ_set1 j c r ((rZ_get1 j c s) + t) i a  (by first | assumption | exact hb (by assumption) (by assumption) | exact hc (by assumption) (by assumption) (by assumption) (by assumption))) ?_
            exact am_rv (S := sZ_reckon) (by unfold aZ_reckon1; simp only [if_neg h1, if_neg h2, if_neg h3, if_pos h4, if_neg h5]; try rfl) rfl
        · skip
          refine am_call (eZ_get1 j c t i a  (by first | assumption | exact hb (by assumption) (by assumption) | exact hc (by assumption) (by assumption) (by assumption) (by assumption))) ?_
          refine am_split (fun h6 => ?_) (fun h6 => ?_)
          · skip
            refine am_call (eZ_set1 j c r ((rZ_get1 j c s) + (rZ_get1 j c t)) i a  (by first | assumption | exact hb (by assumption) (by assumption) | exact hc (by assumption) (by assumption) (by assumption) (by assumption))) ?_
            exact am_rv (S := sZ_reckon) (by unfold aZ_reckon1; simp only [if_neg h1, if_neg h2, if_neg h3, if_neg h4, if_pos h6]; try rfl) rfl
          · skip
            refine am_split (fun hz => absurd hz h4) (fun _ => ?_)
            refine am_split (fun h7 => ?_) (fun h7 => ?_)
            · skip
              refine am_call (eZ_set1 j c r ((rZ_get1 j c s) - (rZ_get1 j c t)) i a  (by first | assumption | exact hb (by assumption) (by assumption) | exact hc (by assumption) (by assumption) (by assumption) (by assumption))) ?_
              exact am_rv (S := sZ_reckon) (by unfold aZ_reckon1; simp only [if_neg h1, if_neg h2, if_neg h3, if_neg h4, if_neg h6, if_pos h7]; try rfl) rfl
            · skip
              refine am_split (fun h8 => ?_) (fun h8 => ?_)
              · skip
                refine am_call (eZ_set1 j c r ((rZ_get1 j c s) &&& (rZ_get1 j c t)) i a  (by first | assumption | exact hb (by assumption) (by assumption) | exact hc (by assumption) (by assumption) (by assumption) (by assumption))) ?_
                exact am_rv (S := sZ_reckon) (by unfold aZ_reckon1; simp only [if_neg h1, if_neg h2, if_neg h3, if_neg h4, if_neg h6, if_neg h7, if_pos h8]; try rfl) rfl
              · skip
                refine am_call (eZ_set1 j c r ((rZ_get1 j c s) ||| (rZ_get1 j c t)) i a  (by first | assumption | exact hb (by assumption) (by assumption) | exact hc (by assumption) (by assumption) (by assumption) (by assumption))) ?_
                exact am_rv (S := sZ_reckon) (by unfold aZ_reckon1; simp only [if_neg h1, if_neg h2, if_neg h3, if_neg h4, if_neg h6, if_neg h7, if_neg h8]; try rfl) rfl

noncomputable def rZ_outside (p q r : Int32) : Int32 := if p < q then (1 : Int32) else if p ≤ r then (0 : Int32) else (1 : Int32)
set_option maxHeartbeats 4000000 in
set_option maxRecDepth 100000 in
theorem eZ_outside (p q r : Int32) (ab : List am_Cl) : am_Ev sZ_outside [.int p, .int q, .int r] ab (some (.int (rZ_outside p q r))) ab := by
  refine am_Ev_of cwZ_outside rfl rfl rfl (am_wp_T gdZ_outside 400 ?_)
  refine am_split (fun h1 => ?_) (fun h1 => ?_)
  · skip
    exact am_ri (S := sZ_outside) (by unfold rZ_outside; simp only [if_pos h1]; try rfl) rfl rfl rfl
  · skip
    refine am_split (fun h2 => ?_) (fun h2 => ?_)
    · skip
      exact am_ri (S := sZ_outside) (by unfold rZ_outside; simp only [if_neg h1, if_pos h2]; try rfl) rfl rfl rfl
    · skip
      exact am_ri (S := sZ_outside) (by unfold rZ_outside; simp only [if_neg h1, if_neg h2]; try rfl) rfl rfl rfl
theorem zoZ_outside (p q r : Int32) : rZ_outside p q r = 0 ∨ rZ_outside p q r = 1 := by
  unfold rZ_outside
  repeat' (first | with_reducible refine zo_ite ?_ ?_ | with_reducible exact Or.inl rfl | with_reducible exact Or.inr rfl)
noncomputable def rZ_notRegister (p : Int32) : Int32 := if p < (0 : Int32) then (1 : Int32) else if p ≤ (31 : Int32) then (0 : Int32) else (1 : Int32)
set_option maxHeartbeats 4000000 in
set_option maxRecDepth 100000 in
theorem eZ_notRegister (p : Int32) (ab : List am_Cl) : am_Ev sZ_notRegister [.int p] ab (some (.int (rZ_notRegister p))) ab := by
  refine am_Ev_of cwZ_notRegister rfl rfl rfl (am_wp_T gdZ_notRegister 400 ?_)
  refine am_split (fun h1 => ?_) (fun h1 => ?_)
  · skip
    exact am_ri (S := sZ_notRegister) (by unfold rZ_notRegister; simp only [if_pos h1]; try rfl) rfl rfl rfl
  · skip
    refine am_split (fun h2 => ?_) (fun h2 => ?_)
    · skip
      exact am_ri (S := sZ_notRegister) (by unfold rZ_notRegister; simp only [if_neg h1, if_pos h2]; try rfl) rfl rfl rfl
    · skip
      exact am_ri (S := sZ_notRegister) (by unfold rZ_notRegister; simp only [if_neg h1, if_neg h2]; try rfl) rfl rfl rfl
theorem zoZ_notRegister (p : Int32) : rZ_notRegister p = 0 ∨ rZ_notRegister p = 1 := by
  unfold rZ_notRegister
  repeat' (first | with_reducible refine zo_ite ?_ ?_ | with_reducible exact Or.inl rfl | with_reducible exact Or.inr rfl)
noncomputable def rZ_typeR (p q r s t u : Int32) : Int32 := ((((((p <<< ((25 : Int32) &&& 31)) ||| (q <<< ((20 : Int32) &&& 31))) ||| (r <<< ((15 : Int32) &&& 31))) ||| (s <<< ((12 : Int32) &&& 31))) ||| (t <<< ((7 : Int32) &&& 31))) ||| u)
set_option maxHeartbeats 4000000 in
set_option maxRecDepth 100000 in
theorem eZ_typeR (p q r s t u : Int32) (ab : List am_Cl) : am_Ev sZ_typeR [.int p, .int q, .int r, .int s, .int t, .int u] ab (some (.int (rZ_typeR p q r s t u))) ab := by
  refine am_Ev_of cwZ_typeR rfl rfl rfl (am_wp_T gdZ_typeR 400 ?_)
  exact am_ri (S := sZ_typeR) rfl rfl rfl rfl
noncomputable def rZ_typeI (p q r s t : Int32) : Int32 := (((((p <<< ((20 : Int32) &&& 31)) ||| (q <<< ((15 : Int32) &&& 31))) ||| (r <<< ((12 : Int32) &&& 31))) ||| (s <<< ((7 : Int32) &&& 31))) ||| t)
set_option maxHeartbeats 4000000 in
set_option maxRecDepth 100000 in
theorem eZ_typeI (p q r s t : Int32) (ab : List am_Cl) : am_Ev sZ_typeI [.int p, .int q, .int r, .int s, .int t] ab (some (.int (rZ_typeI p q r s t))) ab := by
  refine am_Ev_of cwZ_typeI rfl rfl rfl (am_wp_T gdZ_typeI 400 ?_)
  exact am_ri (S := sZ_typeI) rfl rfl rfl rfl
noncomputable def rZ_branch (p q r s : Int32) : Int32 := (rZ_typeR ((((s >>> ((12 : Int32) &&& 31)) &&& (1 : Int32)) <<< ((6 : Int32) &&& 31)) ||| ((s >>> ((5 : Int32) &&& 31)) &&& (63 : Int32))) r q p ((s &&& (30 : Int32)) ||| ((s >>> ((11 : Int32) &&& 31)) &&& (1 : Int32))) (99 : Int32))
set_option maxHeartbeats 4000000 in
set_option maxRecDepth 100000 in
theorem eZ_branch (p q r s : Int32) (ab : List am_Cl) : am_Ev sZ_branch [.int p, .int q, .int r, .int s] ab (some (.int (rZ_branch p q r s))) ab := by
  refine am_Ev_of cwZ_branch rfl rfl rfl (am_wp_T gdZ_branch 400 ?_)
  refine am_call (eZ_typeR ((((s >>> ((12 : Int32) &&& 31)) &&& (1 : Int32)) <<< ((6 : Int32) &&& 31)) ||| ((s >>> ((5 : Int32) &&& 31)) &&& (63 : Int32))) r q p ((s &&& (30 : Int32)) ||| ((s >>> ((11 : Int32) &&& 31)) &&& (1 : Int32))) (99 : Int32) _) ?_
  exact am_ri (S := sZ_branch) rfl rfl rfl rfl
noncomputable def rZ_jump (p q : Int32) : Int32 := ((((((((q >>> ((20 : Int32) &&& 31)) &&& (1 : Int32)) <<< ((31 : Int32) &&& 31)) ||| (((q >>> ((1 : Int32) &&& 31)) &&& (1023 : Int32)) <<< ((21 : Int32) &&& 31))) ||| (((q >>> ((11 : Int32) &&& 31)) &&& (1 : Int32)) <<< ((20 : Int32) &&& 31))) ||| (((q >>> ((12 : Int32) &&& 31)) &&& (255 : Int32)) <<< ((12 : Int32) &&& 31))) ||| (p <<< ((7 : Int32) &&& 31))) ||| (111 : Int32))
set_option maxHeartbeats 4000000 in
set_option maxRecDepth 100000 in
theorem eZ_jump (p q : Int32) (ab : List am_Cl) : am_Ev sZ_jump [.int p, .int q] ab (some (.int (rZ_jump p q))) ab := by
  refine am_Ev_of cwZ_jump rfl rfl rfl (am_wp_T gdZ_jump 400 ?_)
  exact am_ri (S := sZ_jump) rfl rfl rfl rfl
noncomputable def rZ_fits (p q r s : Int32) : Int32 := if (rZ_notRegister q) = (0 : Int32) then if p = (0 : Int32) then if (rZ_notRegister r) = (0 : Int32) then if (rZ_notRegister s) = (0 : Int32) then (1 : Int32) else (0 : Int32) else (0 : Int32) else if p = (1 : Int32) then if (rZ_notRegister r) = (0 : Int32) then if (rZ_notRegister s) = (0 : Int32) then (1 : Int32) else (0 : Int32) else (0 : Int32) else if p = (2 : Int32) then if (rZ_notRegister r) = (0 : Int32) then if (rZ_notRegister s) = (0 : Int32) then (1 : Int32) else (0 : Int32) else (0 : Int32) else if p = (3 : Int32) then if (rZ_notRegister r) = (0 : Int32) then if (rZ_notRegister s) = (0 : Int32) then (1 : Int32) else (0 : Int32) else (0 : Int32) else if p = (4 : Int32) then if (rZ_notRegister r) = (0 : Int32) then if (rZ_outside s (-2048 : Int32) (2047 : Int32)) = (0 : Int32) then (1 : Int32) else (0 : Int32) else (0 : Int32) else if p = (5 : Int32) then if (rZ_outside r (0 : Int32) (1048575 : Int32)) = (0 : Int32) then (1 : Int32) else (0 : Int32) else if p = (6 : Int32) then if (rZ_notRegister r) = (0 : Int32) then if (rZ_outside s (-2048 : Int32) (2047 : Int32)) = (0 : Int32) then (1 : Int32) else (0 : Int32) else (0 : Int32) else if p = (7 : Int32) then if (rZ_notRegister r) = (0 : Int32) then if (rZ_outside s (-2048 : Int32) (2047 : Int32)) = (0 : Int32) then (1 : Int32) else (0 : Int32) else (0 : Int32) else if p = (8 : Int32) then if (rZ_notRegister r) = (0 : Int32) then if (rZ_outside s (-4096 : Int32) (4094 : Int32)) = (0 : Int32) then if (s - s / (2 : Int32) * (2 : Int32)) = (0 : Int32) then (1 : Int32) else (0 : Int32) else (0 : Int32) else (0 : Int32) else if p = (9 : Int32) then if (rZ_notRegister r) = (0 : Int32) then if (rZ_outside s (-4096 : Int32) (4094 : Int32)) = (0 : Int32) then if (s - s / (2 : Int32) * (2 : Int32)) = (0 : Int32) then (1 : Int32) else (0 : Int32) else (0 : Int32) else (0 : Int32) else if p = (10 : Int32) then if (rZ_notRegister r) = (0 : Int32) then if (rZ_outside s (-4096 : Int32) (4094 : Int32)) = (0 : Int32) then if (s - s / (2 : Int32) * (2 : Int32)) = (0 : Int32) then (1 : Int32) else (0 : Int32) else (0 : Int32) else (0 : Int32) else if p = (11 : Int32) then if (rZ_outside r (-1048576 : Int32) (1048574 : Int32)) = (0 : Int32) then if (r - r / (2 : Int32) * (2 : Int32)) = (0 : Int32) then (1 : Int32) else (0 : Int32) else (0 : Int32) else if p = (12 : Int32) then if (rZ_notRegister r) = (0 : Int32) then if (rZ_outside s (-2048 : Int32) (2047 : Int32)) = (0 : Int32) then (1 : Int32) else (0 : Int32) else (0 : Int32) else if p = (13 : Int32) then if q = (0 : Int32) then if r = (0 : Int32) then (1 : Int32) else (0 : Int32) else if r = (0 : Int32) then (0 : Int32) else if (rZ_outside r (-32 : Int32) (31 : Int32)) = (0 : Int32) then (1 : Int32) else (0 : Int32) else if p = (14 : Int32) then if q = (0 : Int32) then (0 : Int32) else if r = (0 : Int32) then (0 : Int32) else if (rZ_notRegister r) = (0 : Int32) then (1 : Int32) else (0 : Int32) else (0 : Int32) else (0 : Int32)
set_option maxHeartbeats 4000000 in
set_option maxRecDepth 100000 in
theorem eZ_fits (p q r s : Int32) (ab : List am_Cl) : am_Ev sZ_fits [.int p, .int q, .int r, .int s] ab (some (.int (rZ_fits p q r s))) ab := by
  refine am_Ev_of cwZ_fits rfl rfl rfl (am_wp_T gdZ_fits 400 ?_)
  refine am_call (eZ_notRegister q _) ?_
  refine am_split (fun h1 => ?_) (fun h1 => ?_)
  · skip
    refine am_split (fun h2 => ?_) (fun h2 => ?_)
    · skip
      refine am_call (eZ_notRegister r _) ?_
      refine am_split (fun h3 => ?_) (fun h3 => ?_)
      · skip
        refine am_call (eZ_notRegister s _) ?_
        refine am_split (fun h4 => ?_) (fun h4 => ?_)
        · skip
          exact am_ri (S := sZ_fits) (by unfold rZ_fits; simp only [if_pos h1, if_pos h2, if_pos h3, if_pos h4]; try rfl) rfl rfl rfl
        · skip
          exact am_ri (S := sZ_fits) (by unfold rZ_fits; simp only [if_pos h1, if_pos h2, if_pos h3, if_neg h4]; try rfl) rfl rfl rfl
      · skip
        exact am_ri (S := sZ_fits) (by unfold rZ_fits; simp only [if_pos h1, if_pos h2, if_neg h3]; try rfl) rfl rfl rfl
    · skip
      refine am_split (fun h5 => ?_) (fun h5 => ?_)
      · skip
        refine am_call (eZ_notRegister r _) ?_
        refine am_split (fun h6 => ?_) (fun h6 => ?_)
        · skip
          refine am_call (eZ_notRegister s _) ?_
          refine am_split (fun h7 => ?_) (fun h7 => ?_)
          · skip
            exact am_ri (S := sZ_fits) (by unfold rZ_fits; simp only [if_pos h1, if_neg h2, if_pos h5, if_pos h6, if_pos h7]; try rfl) rfl rfl rfl
          · skip
            exact am_ri (S := sZ_fits) (by unfold rZ_fits; simp only [if_pos h1, if_neg h2, if_pos h5, if_pos h6, if_neg h7]; try rfl) rfl rfl rfl
        · skip
          exact am_ri (S := sZ_fits) (by unfold rZ_fits; simp only [if_pos h1, if_neg h2, if_pos h5, if_neg h6]; try rfl) rfl rfl rfl
      · skip
        refine am_split (fun h8 => ?_) (fun h8 => ?_)
        · skip
          refine am_call (eZ_notRegister r _) ?_
          refine am_split (fun h9 => ?_) (fun h9 => ?_)
          · skip
            refine am_call (eZ_notRegister s _) ?_
            refine am_split (fun h10 => ?_) (fun h10 => ?_)
            · skip
              exact am_ri (S := sZ_fits) (by unfold rZ_fits; simp only [if_pos h1, if_neg h2, if_neg h5, if_pos h8, if_pos h9, if_pos h10]; try rfl) rfl rfl rfl
            · skip
              exact am_ri (S := sZ_fits) (by unfold rZ_fits; simp only [if_pos h1, if_neg h2, if_neg h5, if_pos h8, if_pos h9, if_neg h10]; try rfl) rfl rfl rfl
          · skip
            exact am_ri (S := sZ_fits) (by unfold rZ_fits; simp only [if_pos h1, if_neg h2, if_neg h5, if_pos h8, if_neg h9]; try rfl) rfl rfl rfl
        · skip
          refine am_split (fun h11 => ?_) (fun h11 => ?_)
          · skip
            refine am_call (eZ_notRegister r _) ?_
            refine am_split (fun h12 => ?_) (fun h12 => ?_)
            · skip
              refine am_call (eZ_notRegister s _) ?_
              refine am_split (fun h13 => ?_) (fun h13 => ?_)
              · skip
                exact am_ri (S := sZ_fits) (by unfold rZ_fits; simp only [if_pos h1, if_neg h2, if_neg h5, if_neg h8, if_pos h11, if_pos h12, if_pos h13]; try rfl) rfl rfl rfl
              · skip
                exact am_ri (S := sZ_fits) (by unfold rZ_fits; simp only [if_pos h1, if_neg h2, if_neg h5, if_neg h8, if_pos h11, if_pos h12, if_neg h13]; try rfl) rfl rfl rfl
            · skip
              exact am_ri (S := sZ_fits) (by unfold rZ_fits; simp only [if_pos h1, if_neg h2, if_neg h5, if_neg h8, if_pos h11, if_neg h12]; try rfl) rfl rfl rfl
          · skip
            refine am_split (fun h14 => ?_) (fun h14 => ?_)
            · skip
              refine am_call (eZ_notRegister r _) ?_
              refine am_split (fun h15 => ?_) (fun h15 => ?_)
              · skip
                refine am_call (eZ_outside s (-2048 : Int32) (2047 : Int32) _) ?_
                refine am_split (fun h16 => ?_) (fun h16 => ?_)
                · skip
                  exact am_ri (S := sZ_fits) (by unfold rZ_fits; simp only [if_pos h1, if_neg h2, if_neg h5, if_neg h8, if_neg h11, if_pos h14, if_pos h15, if_pos h16]; try rfl) rfl rfl rfl
                · skip
                  exact am_ri (S := sZ_fits) (by unfold rZ_fits; simp only [if_pos h1, if_neg h2, if_neg h5, if_neg h8, if_neg h11, if_pos h14, if_pos h15, if_neg h16]; try rfl) rfl rfl rfl
              · skip
                exact am_ri (S := sZ_fits) (by unfold rZ_fits; simp only [if_pos h1, if_neg h2, if_neg h5, if_neg h8, if_neg h11, if_pos h14, if_neg h15]; try rfl) rfl rfl rfl
            · skip
              refine am_split (fun h17 => ?_) (fun h17 => ?_)
              · skip
                refine am_call (eZ_outside r (0 : Int32) (1048575 : Int32) _) ?_
                refine am_split (fun h18 => ?_) (fun h18 => ?_)
                · skip
                  exact am_ri (S := sZ_fits) (by unfold rZ_fits; simp only [if_pos h1, if_neg h2, if_neg h5, if_neg h8, if_neg h11, if_neg h14, if_pos h17, if_pos h18]; try rfl) rfl rfl rfl
                · skip
                  exact am_ri (S := sZ_fits) (by unfold rZ_fits; simp only [if_pos h1, if_neg h2, if_neg h5, if_neg h8, if_neg h11, if_neg h14, if_pos h17, if_neg h18]; try rfl) rfl rfl rfl
              · skip
                refine am_split (fun h19 => ?_) (fun h19 => ?_)
                · skip
                  refine am_call (eZ_notRegister r _) ?_
                  refine am_split (fun h20 => ?_) (fun h20 => ?_)
                  · skip
                    refine am_call (eZ_outside s (-2048 : Int32) (2047 : Int32) _) ?_
                    refine am_split (fun h21 => ?_) (fun h21 => ?_)
                    · skip
                      exact am_ri (S := sZ_fits) (by unfold rZ_fits; simp only [if_pos h1, if_neg h2, if_neg h5, if_neg h8, if_neg h11, if_neg h14, if_neg h17, if_pos h19, if_pos h20, if_pos h21]; try rfl) rfl rfl rfl
                    · skip
                      exact am_ri (S := sZ_fits) (by unfold rZ_fits; simp only [if_pos h1, if_neg h2, if_neg h5, if_neg h8, if_neg h11, if_neg h14, if_neg h17, if_pos h19, if_pos h20, if_neg h21]; try rfl) rfl rfl rfl
                  · skip
                    exact am_ri (S := sZ_fits) (by unfold rZ_fits; simp only [if_pos h1, if_neg h2, if_neg h5, if_neg h8, if_neg h11, if_neg h14, if_neg h17, if_pos h19, if_neg h20]; try rfl) rfl rfl rfl
                · skip
                  refine am_split (fun h22 => ?_) (fun h22 => ?_)
                  · skip
                    refine am_call (eZ_notRegister r _) ?_
                    refine am_split (fun h23 => ?_) (fun h23 => ?_)
                    · skip
                      refine am_call (eZ_outside s (-2048 : Int32) (2047 : Int32) _) ?_
                      refine am_split (fun h24 => ?_) (fun h24 => ?_)
                      · skip
                        exact am_ri (S := sZ_fits) (by unfold rZ_fits; simp only [if_pos h1, if_neg h2, if_neg h5, if_neg h8, if_neg h11, if_neg h14, if_neg h17, if_neg h19, if_pos h22, if_pos h23, if_pos h24]; try rfl) rfl rfl rfl
                      · skip
                        exact am_ri (S := sZ_fits) (by unfold rZ_fits; simp only [if_pos h1, if_neg h2, if_neg h5, if_neg h8, if_neg h11, if_neg h14, if_neg h17, if_neg h19, if_pos h22, if_pos h23, if_neg h24]; try rfl) rfl rfl rfl
                    · skip
                      exact am_ri (S := sZ_fits) (by unfold rZ_fits; simp only [if_pos h1, if_neg h2, if_neg h5, if_neg h8, if_neg h11, if_neg h14, if_neg h17, if_neg h19, if_pos h22, if_neg h23]; try rfl) rfl rfl rfl
                  · skip
                    refine am_split (fun h25 => ?_) (fun h25 => ?_)
                    · skip
                      refine am_call (eZ_notRegister r _) ?_
                      refine am_split (fun h26 => ?_) (fun h26 => ?_)
                      · skip
                        refine am_call (eZ_outside s (-4096 : Int32) (4094 : Int32) _) ?_
                        refine am_split (fun h27 => ?_) (fun h27 => ?_)
                        · skip
                          refine am_split (fun h28 => ?_) (fun h28 => ?_)
                          · skip
                            exact am_ri (S := sZ_fits) (by unfold rZ_fits; simp only [if_pos h1, if_neg h2, if_neg h5, if_neg h8, if_neg h11, if_neg h14, if_neg h17, if_neg h19, if_neg h22, if_pos h25, if_pos h26, if_pos h27, if_pos h28]; try rfl) rfl rfl rfl
                          · skip
                            exact am_ri (S := sZ_fits) (by unfold rZ_fits; simp only [if_pos h1, if_neg h2, if_neg h5, if_neg h8, if_neg h11, if_neg h14, if_neg h17, if_neg h19, if_neg h22, if_pos h25, if_pos h26, if_pos h27, if_neg h28]; try rfl) rfl rfl rfl
                        · skip
                          exact am_ri (S := sZ_fits) (by unfold rZ_fits; simp only [if_pos h1, if_neg h2, if_neg h5, if_neg h8, if_neg h11, if_neg h14, if_neg h17, if_neg h19, if_neg h22, if_pos h25, if_pos h26, if_neg h27]; try rfl) rfl rfl rfl
                      · skip
                        exact am_ri (S := sZ_fits) (by unfold rZ_fits; simp only [if_pos h1, if_neg h2, if_neg h5, if_neg h8, if_neg h11, if_neg h14, if_neg h17, if_neg h19, if_neg h22, if_pos h25, if_neg h26]; try rfl) rfl rfl rfl
                    · skip
                      refine am_split (fun h29 => ?_) (fun h29 => ?_)
                      · skip
                        refine am_call (eZ_notRegister r _) ?_
                        refine am_split (fun h30 => ?_) (fun h30 => ?_)
                        · skip
                          refine am_call (eZ_outside s (-4096 : Int32) (4094 : Int32) _) ?_
                          refine am_split (fun h31 => ?_) (fun h31 => ?_)
                          · skip
                            refine am_split (fun h32 => ?_) (fun h32 => ?_)
                            · skip
                              exact am_ri (S := sZ_fits) (by unfold rZ_fits; simp only [if_pos h1, if_neg h2, if_neg h5, if_neg h8, if_neg h11, if_neg h14, if_neg h17, if_neg h19, if_neg h22, if_neg h25, if_pos h29, if_pos h30, if_pos h31, if_pos h32]; try rfl) rfl rfl rfl
                            · skip
                              exact am_ri (S := sZ_fits) (by unfold rZ_fits; simp only [if_pos h1, if_neg h2, if_neg h5, if_neg h8, if_neg h11, if_neg h14, if_neg h17, if_neg h19, if_neg h22, if_neg h25, if_pos h29, if_pos h30, if_pos h31, if_neg h32]; try rfl) rfl rfl rfl
                          · skip
                            exact am_ri (S := sZ_fits) (by unfold rZ_fits; simp only [if_pos h1, if_neg h2, if_neg h5, if_neg h8, if_neg h11, if_neg h14, if_neg h17, if_neg h19, if_neg h22, if_neg h25, if_pos h29, if_pos h30, if_neg h31]; try rfl) rfl rfl rfl
                        · skip
                          exact am_ri (S := sZ_fits) (by unfold rZ_fits; simp only [if_pos h1, if_neg h2, if_neg h5, if_neg h8, if_neg h11, if_neg h14, if_neg h17, if_neg h19, if_neg h22, if_neg h25, if_pos h29, if_neg h30]; try rfl) rfl rfl rfl
                      · skip
                        refine am_split (fun h33 => ?_) (fun h33 => ?_)
                        · skip
                          refine am_call (eZ_notRegister r _) ?_
                          refine am_split (fun h34 => ?_) (fun h34 => ?_)
                          · skip
                            refine am_call (eZ_outside s (-4096 : Int32) (4094 : Int32) _) ?_
                            refine am_split (fun h35 => ?_) (fun h35 => ?_)
                            · skip
                              refine am_split (fun h36 => ?_) (fun h36 => ?_)
                              · skip
                                exact am_ri (S := sZ_fits) (by unfold rZ_fits; simp only [if_pos h1, if_neg h2, if_neg h5, if_neg h8, if_neg h11, if_neg h14, if_neg h17, if_neg h19, if_neg h22, if_neg h25, if_neg h29, if_pos h33, if_pos h34, if_pos h35, if_pos h36]; try rfl) rfl rfl rfl
                              · skip
                                exact am_ri (S := sZ_fits) (by unfold rZ_fits; simp only [if_pos h1, if_neg h2, if_neg h5, if_neg h8, if_neg h11, if_neg h14, if_neg h17, if_neg h19, if_neg h22, if_neg h25, if_neg h29, if_pos h33, if_pos h34, if_pos h35, if_neg h36]; try rfl) rfl rfl rfl
                            · skip
                              exact am_ri (S := sZ_fits) (by unfold rZ_fits; simp only [if_pos h1, if_neg h2, if_neg h5, if_neg h8, if_neg h11, if_neg h14, if_neg h17, if_neg h19, if_neg h22, if_neg h25, if_neg h29, if_pos h33, if_pos h34, if_neg h35]; try rfl) rfl rfl rfl
                          · skip
                            exact am_ri (S := sZ_fits) (by unfold rZ_fits; simp only [if_pos h1, if_neg h2, if_neg h5, if_neg h8, if_neg h11, if_neg h14, if_neg h17, if_neg h19, if_neg h22, if_neg h25, if_neg h29, if_pos h33, if_neg h34]; try rfl) rfl rfl rfl
                        · skip
                          refine am_split (fun h37 => ?_) (fun h37 => ?_)
                          · skip
                            refine am_call (eZ_outside r (-1048576 : Int32) (1048574 : Int32) _) ?_
                            refine am_split (fun h38 => ?_) (fun h38 => ?_)
                            · skip
                              refine am_split (fun h39 => ?_) (fun h39 => ?_)
                              · skip
                                exact am_ri (S := sZ_fits) (by unfold rZ_fits; simp only [if_pos h1, if_neg h2, if_neg h5, if_neg h8, if_neg h11, if_neg h14, if_neg h17, if_neg h19, if_neg h22, if_neg h25, if_neg h29, if_neg h33, if_pos h37, if_pos h38, if_pos h39]; try rfl) rfl rfl rfl
                              · skip
                                exact am_ri (S := sZ_fits) (by unfold rZ_fits; simp only [if_pos h1, if_neg h2, if_neg h5, if_neg h8, if_neg h11, if_neg h14, if_neg h17, if_neg h19, if_neg h22, if_neg h25, if_neg h29, if_neg h33, if_pos h37, if_pos h38, if_neg h39]; try rfl) rfl rfl rfl
                            · skip
                              exact am_ri (S := sZ_fits) (by unfold rZ_fits; simp only [if_pos h1, if_neg h2, if_neg h5, if_neg h8, if_neg h11, if_neg h14, if_neg h17, if_neg h19, if_neg h22, if_neg h25, if_neg h29, if_neg h33, if_pos h37, if_neg h38]; try rfl) rfl rfl rfl
                          · skip
                            refine am_split (fun h40 => ?_) (fun h40 => ?_)
                            · skip
                              refine am_call (eZ_notRegister r _) ?_
                              refine am_split (fun h41 => ?_) (fun h41 => ?_)
                              · skip
                                refine am_call (eZ_outside s (-2048 : Int32) (2047 : Int32) _) ?_
                                refine am_split (fun h42 => ?_) (fun h42 => ?_)
                                · skip
                                  exact am_ri (S := sZ_fits) (by unfold rZ_fits; simp only [if_pos h1, if_neg h2, if_neg h5, if_neg h8, if_neg h11, if_neg h14, if_neg h17, if_neg h19, if_neg h22, if_neg h25, if_neg h29, if_neg h33, if_neg h37, if_pos h40, if_pos h41, if_pos h42]; try rfl) rfl rfl rfl
                                · skip
                                  exact am_ri (S := sZ_fits) (by unfold rZ_fits; simp only [if_pos h1, if_neg h2, if_neg h5, if_neg h8, if_neg h11, if_neg h14, if_neg h17, if_neg h19, if_neg h22, if_neg h25, if_neg h29, if_neg h33, if_neg h37, if_pos h40, if_pos h41, if_neg h42]; try rfl) rfl rfl rfl
                              · skip
                                exact am_ri (S := sZ_fits) (by unfold rZ_fits; simp only [if_pos h1, if_neg h2, if_neg h5, if_neg h8, if_neg h11, if_neg h14, if_neg h17, if_neg h19, if_neg h22, if_neg h25, if_neg h29, if_neg h33, if_neg h37, if_pos h40, if_neg h41]; try rfl) rfl rfl rfl
                            · skip
                              refine am_split (fun h43 => ?_) (fun h43 => ?_)
                              · skip
                                refine am_split (fun h44 => ?_) (fun h44 => ?_)
                                · skip
                                  refine am_split (fun h45 => ?_) (fun h45 => ?_)
                                  · skip
                                    exact am_ri (S := sZ_fits) (by unfold rZ_fits; simp only [if_pos h1, if_neg h2, if_neg h5, if_neg h8, if_neg h11, if_neg h14, if_neg h17, if_neg h19, if_neg h22, if_neg h25, if_neg h29, if_neg h33, if_neg h37, if_neg h40, if_pos h43, if_pos h44, if_pos h45]; try rfl) rfl rfl rfl
                                  · skip
                                    refine am_split (fun _ => ?_) (fun hz => absurd h44 hz)
                                    exact am_ri (S := sZ_fits) (by unfold rZ_fits; simp only [if_pos h1, if_neg h2, if_neg h5, if_neg h8, if_neg h11, if_neg h14, if_neg h17, if_neg h19, if_neg h22, if_neg h25, if_neg h29, if_neg h33, if_neg h37, if_neg h40, if_pos h43, if_pos h44, if_neg h45]; try rfl) rfl rfl rfl
                                · skip
                                  refine am_split (fun hz => absurd hz h44) (fun _ => ?_)
                                  refine am_split (fun h46 => ?_) (fun h46 => ?_)
                                  · skip
                                    exact am_ri (S := sZ_fits) (by unfold rZ_fits; simp only [if_pos h1, if_neg h2, if_neg h5, if_neg h8, if_neg h11, if_neg h14, if_neg h17, if_neg h19, if_neg h22, if_neg h25, if_neg h29, if_neg h33, if_neg h37, if_neg h40, if_pos h43, if_neg h44, if_pos h46]; try rfl) rfl rfl rfl
                                  · skip
                                    refine am_call (eZ_outside r (-32 : Int32) (31 : Int32) _) ?_
                                    refine am_split (fun h47 => ?_) (fun h47 => ?_)
                                    · skip
                                      exact am_ri (S := sZ_fits) (by unfold rZ_fits; simp only [if_pos h1, if_neg h2, if_neg h5, if_neg h8, if_neg h11, if_neg h14, if_neg h17, if_neg h19, if_neg h22, if_neg h25, if_neg h29, if_neg h33, if_neg h37, if_neg h40, if_pos h43, if_neg h44, if_neg h46, if_pos h47]; try rfl) rfl rfl rfl
                                    · skip
                                      exact am_ri (S := sZ_fits) (by unfold rZ_fits; simp only [if_pos h1, if_neg h2, if_neg h5, if_neg h8, if_neg h11, if_neg h14, if_neg h17, if_neg h19, if_neg h22, if_neg h25, if_neg h29, if_neg h33, if_neg h37, if_neg h40, if_pos h43, if_neg h44, if_neg h46, if_neg h47]; try rfl) rfl rfl rfl
                              · skip
                                refine am_split (fun h48 => ?_) (fun h48 => ?_)
                                · skip
                                  refine am_split (fun h49 => ?_) (fun h49 => ?_)
                                  · skip
                                    exact am_ri (S := sZ_fits) (by unfold rZ_fits; simp only [if_pos h1, if_neg h2, if_neg h5, if_neg h8, if_neg h11, if_neg h14, if_neg h17, if_neg h19, if_neg h22, if_neg h25, if_neg h29, if_neg h33, if_neg h37, if_neg h40, if_neg h43, if_pos h48, if_pos h49]; try rfl) rfl rfl rfl
                                  · skip
                                    refine am_split (fun h50 => ?_) (fun h50 => ?_)
                                    · skip
                                      exact am_ri (S := sZ_fits) (by unfold rZ_fits; simp only [if_pos h1, if_neg h2, if_neg h5, if_neg h8, if_neg h11, if_neg h14, if_neg h17, if_neg h19, if_neg h22, if_neg h25, if_neg h29, if_neg h33, if_neg h37, if_neg h40, if_neg h43, if_pos h48, if_neg h49, if_pos h50]; try rfl) rfl rfl rfl
                                    · skip
                                      refine am_call (eZ_notRegister r _) ?_
                                      refine am_split (fun h51 => ?_) (fun h51 => ?_)
                                      · skip
                                        exact am_ri (S := sZ_fits) (by unfold rZ_fits; simp only [if_pos h1, if_neg h2, if_neg h5, if_neg h8, if_neg h11, if_neg h14, if_neg h17, if_neg h19, if_neg h22, if_neg h25, if_neg h29, if_neg h33, if_neg h37, if_neg h40, if_neg h43, if_pos h48, if_neg h49, if_neg h50, if_pos h51]; try rfl) rfl rfl rfl
                                      · skip
                                        exact am_ri (S := sZ_fits) (by unfold rZ_fits; simp only [if_pos h1, if_neg h2, if_neg h5, if_neg h8, if_neg h11, if_neg h14, if_neg h17, if_neg h19, if_neg h22, if_neg h25, if_neg h29, if_neg h33, if_neg h37, if_neg h40, if_neg h43, if_pos h48, if_neg h49, if_neg h50, if_neg h51]; try rfl) rfl rfl rfl
                                · skip
                                  exact am_ri (S := sZ_fits) (by unfold rZ_fits; simp only [if_pos h1, if_neg h2, if_neg h5, if_neg h8, if_neg h11, if_neg h14, if_neg h17, if_neg h19, if_neg h22, if_neg h25, if_neg h29, if_neg h33, if_neg h37, if_neg h40, if_neg h43, if_neg h48]; try rfl) rfl rfl rfl
  · skip
    exact am_ri (S := sZ_fits) (by unfold rZ_fits; simp only [if_neg h1]; try rfl) rfl rfl rfl
theorem zoZ_fits (p q r s : Int32) : rZ_fits p q r s = 0 ∨ rZ_fits p q r s = 1 := by
  unfold rZ_fits
  repeat' (first | with_reducible refine zo_ite ?_ ?_ | with_reducible exact Or.inl rfl | with_reducible exact Or.inr rfl)
noncomputable def rZ_made (p q r s : Int32) : Int32 := if p = (0 : Int32) then (rZ_typeR (0 : Int32) s r (0 : Int32) q (51 : Int32)) else if p = (1 : Int32) then (rZ_typeR (32 : Int32) s r (0 : Int32) q (51 : Int32)) else if p = (2 : Int32) then (rZ_typeR (0 : Int32) s r (7 : Int32) q (51 : Int32)) else if p = (3 : Int32) then (rZ_typeR (0 : Int32) s r (6 : Int32) q (51 : Int32)) else if p = (4 : Int32) then (rZ_typeI s r (0 : Int32) q (19 : Int32)) else if p = (5 : Int32) then (((r <<< ((12 : Int32) &&& 31)) ||| (q <<< ((7 : Int32) &&& 31))) ||| (55 : Int32)) else if p = (6 : Int32) then (rZ_typeI s r (2 : Int32) q (3 : Int32)) else if p = (7 : Int32) then (rZ_typeR ((s >>> ((5 : Int32) &&& 31)) &&& (127 : Int32)) q r (2 : Int32) (s &&& (31 : Int32)) (35 : Int32)) else if p = (8 : Int32) then (rZ_branch (0 : Int32) q r s) else if p = (9 : Int32) then (rZ_branch (1 : Int32) q r s) else if p = (10 : Int32) then (rZ_branch (4 : Int32) q r s) else if p = (11 : Int32) then (rZ_jump q r) else if p = (12 : Int32) then (rZ_typeI s r (0 : Int32) q (103 : Int32)) else if p = (13 : Int32) then ((((((r >>> ((5 : Int32) &&& 31)) &&& (1 : Int32)) <<< ((12 : Int32) &&& 31)) ||| (q <<< ((7 : Int32) &&& 31))) ||| ((r &&& (31 : Int32)) <<< ((2 : Int32) &&& 31))) ||| (1 : Int32)) else ((((32768 : Int32) ||| (q <<< ((7 : Int32) &&& 31))) ||| (r <<< ((2 : Int32) &&& 31))) ||| (2 : Int32))
set_option maxHeartbeats 4000000 in
set_option maxRecDepth 100000 in
theorem eZ_made (p q r s : Int32) (ab : List am_Cl) : am_Ev sZ_made [.int p, .int q, .int r, .int s] ab (some (.int (rZ_made p q r s))) ab := by
  refine am_Ev_of cwZ_made rfl rfl rfl (am_wp_T gdZ_made 400 ?_)
  refine am_split (fun h1 => ?_) (fun h1 => ?_)
  · skip
    refine am_call (eZ_typeR (0 : Int32) s r (0 : Int32) q (51 : Int32) _) ?_
    exact am_ri (S := sZ_made) (by unfold rZ_made; simp only [if_pos h1]; try rfl) rfl rfl rfl
  · skip
    refine am_split (fun h2 => ?_) (fun h2 => ?_)
    · skip
      refine am_call (eZ_typeR (32 : Int32) s r (0 : Int32) q (51 : Int32) _) ?_
      exact am_ri (S := sZ_made) (by unfold rZ_made; simp only [if_neg h1, if_pos h2]; try rfl) rfl rfl rfl
    · skip
      refine am_split (fun h3 => ?_) (fun h3 => ?_)
      · skip
        refine am_call (eZ_typeR (0 : Int32) s r (7 : Int32) q (51 : Int32) _) ?_
        exact am_ri (S := sZ_made) (by unfold rZ_made; simp only [if_neg h1, if_neg h2, if_pos h3]; try rfl) rfl rfl rfl
      · skip
        refine am_split (fun h4 => ?_) (fun h4 => ?_)
        · skip
          refine am_call (eZ_typeR (0 : Int32) s r (6 : Int32) q (51 : Int32) _) ?_
          exact am_ri (S := sZ_made) (by unfold rZ_made; simp only [if_neg h1, if_neg h2, if_neg h3, if_pos h4]; try rfl) rfl rfl rfl
        · skip
          refine am_split (fun h5 => ?_) (fun h5 => ?_)
          · skip
            refine am_call (eZ_typeI s r (0 : Int32) q (19 : Int32) _) ?_
            exact am_ri (S := sZ_made) (by unfold rZ_made; simp only [if_neg h1, if_neg h2, if_neg h3, if_neg h4, if_pos h5]; try rfl) rfl rfl rfl
          · skip
            refine am_split (fun h6 => ?_) (fun h6 => ?_)
            · skip
              exact am_ri (S := sZ_made) (by unfold rZ_made; simp only [if_neg h1, if_neg h2, if_neg h3, if_neg h4, if_neg h5, if_pos h6]; try rfl) rfl rfl rfl
            · skip
              refine am_split (fun h7 => ?_) (fun h7 => ?_)
              · skip
                refine am_call (eZ_typeI s r (2 : Int32) q (3 : Int32) _) ?_
                exact am_ri (S := sZ_made) (by unfold rZ_made; simp only [if_neg h1, if_neg h2, if_neg h3, if_neg h4, if_neg h5, if_neg h6, if_pos h7]; try rfl) rfl rfl rfl
              · skip
                refine am_split (fun h8 => ?_) (fun h8 => ?_)
                · skip
                  refine am_call (eZ_typeR ((s >>> ((5 : Int32) &&& 31)) &&& (127 : Int32)) q r (2 : Int32) (s &&& (31 : Int32)) (35 : Int32) _) ?_
                  exact am_ri (S := sZ_made) (by unfold rZ_made; simp only [if_neg h1, if_neg h2, if_neg h3, if_neg h4, if_neg h5, if_neg h6, if_neg h7, if_pos h8]; try rfl) rfl rfl rfl
                · skip
                  refine am_split (fun h9 => ?_) (fun h9 => ?_)
                  · skip
                    refine am_call (eZ_branch (0 : Int32) q r s _) ?_
                    exact am_ri (S := sZ_made) (by unfold rZ_made; simp only [if_neg h1, if_neg h2, if_neg h3, if_neg h4, if_neg h5, if_neg h6, if_neg h7, if_neg h8, if_pos h9]; try rfl) rfl rfl rfl
                  · skip
                    refine am_split (fun h10 => ?_) (fun h10 => ?_)
                    · skip
                      refine am_call (eZ_branch (1 : Int32) q r s _) ?_
                      exact am_ri (S := sZ_made) (by unfold rZ_made; simp only [if_neg h1, if_neg h2, if_neg h3, if_neg h4, if_neg h5, if_neg h6, if_neg h7, if_neg h8, if_neg h9, if_pos h10]; try rfl) rfl rfl rfl
                    · skip
                      refine am_split (fun h11 => ?_) (fun h11 => ?_)
                      · skip
                        refine am_call (eZ_branch (4 : Int32) q r s _) ?_
                        exact am_ri (S := sZ_made) (by unfold rZ_made; simp only [if_neg h1, if_neg h2, if_neg h3, if_neg h4, if_neg h5, if_neg h6, if_neg h7, if_neg h8, if_neg h9, if_neg h10, if_pos h11]; try rfl) rfl rfl rfl
                      · skip
                        refine am_split (fun h12 => ?_) (fun h12 => ?_)
                        · skip
                          refine am_call (eZ_jump q r _) ?_
                          exact am_ri (S := sZ_made) (by unfold rZ_made; simp only [if_neg h1, if_neg h2, if_neg h3, if_neg h4, if_neg h5, if_neg h6, if_neg h7, if_neg h8, if_neg h9, if_neg h10, if_neg h11, if_pos h12]; try rfl) rfl rfl rfl
                        · skip
                          refine am_split (fun h13 => ?_) (fun h13 => ?_)
                          · skip
                            refine am_call (eZ_typeI s r (0 : Int32) q (103 : Int32) _) ?_
                            exact am_ri (S := sZ_made) (by unfold rZ_made; simp only [if_neg h1, if_neg h2, if_neg h3, if_neg h4, if_neg h5, if_neg h6, if_neg h7, if_neg h8, if_neg h9, if_neg h10, if_neg h11, if_neg h12, if_pos h13]; try rfl) rfl rfl rfl
                          · skip
                            refine am_split (fun h14 => ?_) (fun h14 => ?_)
                            · skip
                              exact am_ri (S := sZ_made) (by unfold rZ_made; simp only [if_neg h1, if_neg h2, if_neg h3, if_neg h4, if_neg h5, if_neg h6, if_neg h7, if_neg h8, if_neg h9, if_neg h10, if_neg h11, if_neg h12, if_neg h13, if_pos h14]; try rfl) rfl rfl rfl
                            · skip
                              exact am_ri (S := sZ_made) (by unfold rZ_made; simp only [if_neg h1, if_neg h2, if_neg h3, if_neg h4, if_neg h5, if_neg h6, if_neg h7, if_neg h8, if_neg h9, if_neg h10, if_neg h11, if_neg h12, if_neg h13, if_neg h14]; try rfl) rfl rfl rfl
noncomputable def rZ_fieldA (p q : Int32) : Int32 := if p = (7 : Int32) then ((q >>> ((20 : Int32) &&& 31)) &&& (31 : Int32)) else if p < (8 : Int32) then ((q >>> ((7 : Int32) &&& 31)) &&& (31 : Int32)) else if (10 : Int32) < p then ((q >>> ((7 : Int32) &&& 31)) &&& (31 : Int32)) else ((q >>> ((15 : Int32) &&& 31)) &&& (31 : Int32))
set_option maxHeartbeats 4000000 in
set_option maxRecDepth 100000 in
theorem eZ_fieldA (p q : Int32) (ab : List am_Cl) : am_Ev sZ_fieldA [.int p, .int q] ab (some (.int (rZ_fieldA p q))) ab := by
  refine am_Ev_of cwZ_fieldA rfl rfl rfl (am_wp_T gdZ_fieldA 400 ?_)
  refine am_split (fun h1 => ?_) (fun h1 => ?_)
  · skip
    exact am_ri (S := sZ_fieldA) (by unfold rZ_fieldA; simp only [if_pos h1]; try rfl) rfl rfl rfl
  · skip
    refine am_split (fun h2 => ?_) (fun h2 => ?_)
    · skip
      exact am_ri (S := sZ_fieldA) (by unfold rZ_fieldA; simp only [if_neg h1, if_pos h2]; try rfl) rfl rfl rfl
    · skip
      refine am_split (fun h3 => ?_) (fun h3 => ?_)
      · skip
        exact am_ri (S := sZ_fieldA) (by unfold rZ_fieldA; simp only [if_neg h1, if_neg h2, if_pos h3]; try rfl) rfl rfl rfl
      · skip
        exact am_ri (S := sZ_fieldA) (by unfold rZ_fieldA; simp only [if_neg h1, if_neg h2, if_neg h3]; try rfl) rfl rfl rfl
noncomputable def rZ_fieldB (p q : Int32) : Int32 := if p = (5 : Int32) then (Int32.toUInt32 q >>> (Int32.toUInt32 (12 : Int32) &&& Int32.toUInt32 31)).toInt32 else if p < (8 : Int32) then if p = (11 : Int32) then (((((q >>> ((31 : Int32) &&& 31)) * (1048576 : Int32)) ||| (((q >>> ((21 : Int32) &&& 31)) &&& (1023 : Int32)) <<< ((1 : Int32) &&& 31))) ||| (((q >>> ((20 : Int32) &&& 31)) &&& (1 : Int32)) <<< ((11 : Int32) &&& 31))) ||| (((q >>> ((12 : Int32) &&& 31)) &&& (255 : Int32)) <<< ((12 : Int32) &&& 31))) else if p = (13 : Int32) then if ((((q >>> ((12 : Int32) &&& 31)) &&& (1 : Int32)) <<< ((5 : Int32) &&& 31)) ||| ((q >>> ((2 : Int32) &&& 31)) &&& (31 : Int32))) ≤ (31 : Int32) then ((((q >>> ((12 : Int32) &&& 31)) &&& (1 : Int32)) <<< ((5 : Int32) &&& 31)) ||| ((q >>> ((2 : Int32) &&& 31)) &&& (31 : Int32))) else (((((q >>> ((12 : Int32) &&& 31)) &&& (1 : Int32)) <<< ((5 : Int32) &&& 31)) ||| ((q >>> ((2 : Int32) &&& 31)) &&& (31 : Int32))) - (64 : Int32)) else if p = (14 : Int32) then ((q >>> ((2 : Int32) &&& 31)) &&& (31 : Int32)) else ((q >>> ((15 : Int32) &&& 31)) &&& (31 : Int32)) else if (10 : Int32) < p then if p = (11 : Int32) then (((((q >>> ((31 : Int32) &&& 31)) * (1048576 : Int32)) ||| (((q >>> ((21 : Int32) &&& 31)) &&& (1023 : Int32)) <<< ((1 : Int32) &&& 31))) ||| (((q >>> ((20 : Int32) &&& 31)) &&& (1 : Int32)) <<< ((11 : Int32) &&& 31))) ||| (((q >>> ((12 : Int32) &&& 31)) &&& (255 : Int32)) <<< ((12 : Int32) &&& 31))) else if p = (13 : Int32) then if ((((q >>> ((12 : Int32) &&& 31)) &&& (1 : Int32)) <<< ((5 : Int32) &&& 31)) ||| ((q >>> ((2 : Int32) &&& 31)) &&& (31 : Int32))) ≤ (31 : Int32) then ((((q >>> ((12 : Int32) &&& 31)) &&& (1 : Int32)) <<< ((5 : Int32) &&& 31)) ||| ((q >>> ((2 : Int32) &&& 31)) &&& (31 : Int32))) else (((((q >>> ((12 : Int32) &&& 31)) &&& (1 : Int32)) <<< ((5 : Int32) &&& 31)) ||| ((q >>> ((2 : Int32) &&& 31)) &&& (31 : Int32))) - (64 : Int32)) else if p = (14 : Int32) then ((q >>> ((2 : Int32) &&& 31)) &&& (31 : Int32)) else ((q >>> ((15 : Int32) &&& 31)) &&& (31 : Int32)) else ((q >>> ((20 : Int32) &&& 31)) &&& (31 : Int32))
set_option maxHeartbeats 4000000 in
set_option maxRecDepth 100000 in
theorem eZ_fieldB (p q : Int32) (ab : List am_Cl) : am_Ev sZ_fieldB [.int p, .int q] ab (some (.int (rZ_fieldB p q))) ab := by
  refine am_Ev_of cwZ_fieldB rfl rfl rfl (am_wp_T gdZ_fieldB 400 ?_)
  refine am_split (fun h1 => ?_) (fun h1 => ?_)
  · skip
    exact am_ri (S := sZ_fieldB) (by unfold rZ_fieldB; simp only [if_pos h1]; try rfl) rfl rfl rfl
  · skip
    refine am_split (fun h2 => ?_) (fun h2 => ?_)
    · skip
      refine am_split (fun h3 => ?_) (fun h3 => ?_)
      · skip
        exact am_ri (S := sZ_fieldB) (by unfold rZ_fieldB; simp only [if_neg h1, if_pos h2, if_pos h3]; try rfl) rfl rfl rfl
      · skip
        refine am_split (fun h4 => ?_) (fun h4 => ?_)
        · skip
          refine am_split (fun h5 => ?_) (fun h5 => ?_)
          · skip
            exact am_ri (S := sZ_fieldB) (by unfold rZ_fieldB; simp only [if_neg h1, if_pos h2, if_neg h3, if_pos h4, if_pos h5]; try rfl) rfl rfl rfl
          · skip
            exact am_ri (S := sZ_fieldB) (by unfold rZ_fieldB; simp only [if_neg h1, if_pos h2, if_neg h3, if_pos h4, if_neg h5]; try rfl) rfl rfl rfl
        · skip
          refine am_split (fun h6 => ?_) (fun h6 => ?_)
          · skip
            exact am_ri (S := sZ_fieldB) (by unfold rZ_fieldB; simp only [if_neg h1, if_pos h2, if_neg h3, if_neg h4, if_pos h6]; try rfl) rfl rfl rfl
          · skip
            exact am_ri (S := sZ_fieldB) (by unfold rZ_fieldB; simp only [if_neg h1, if_pos h2, if_neg h3, if_neg h4, if_neg h6]; try rfl) rfl rfl rfl
    · skip
      refine am_split (fun h7 => ?_) (fun h7 => ?_)
      · skip
        refine am_split (fun h8 => ?_) (fun h8 => ?_)
        · skip
          exact am_ri (S := sZ_fieldB) (by unfold rZ_fieldB; simp only [if_neg h1, if_neg h2, if_pos h7, if_pos h8]; try rfl) rfl rfl rfl
        · skip
          refine am_split (fun h9 => ?_) (fun h9 => ?_)
          · skip
            refine am_split (fun h10 => ?_) (fun h10 => ?_)
            · skip
              exact am_ri (S := sZ_fieldB) (by unfold rZ_fieldB; simp only [if_neg h1, if_neg h2, if_pos h7, if_neg h8, if_pos h9, if_pos h10]; try rfl) rfl rfl rfl
            · skip
              exact am_ri (S := sZ_fieldB) (by unfold rZ_fieldB; simp only [if_neg h1, if_neg h2, if_pos h7, if_neg h8, if_pos h9, if_neg h10]; try rfl) rfl rfl rfl
          · skip
            refine am_split (fun h11 => ?_) (fun h11 => ?_)
            · skip
              exact am_ri (S := sZ_fieldB) (by unfold rZ_fieldB; simp only [if_neg h1, if_neg h2, if_pos h7, if_neg h8, if_neg h9, if_pos h11]; try rfl) rfl rfl rfl
            · skip
              exact am_ri (S := sZ_fieldB) (by unfold rZ_fieldB; simp only [if_neg h1, if_neg h2, if_pos h7, if_neg h8, if_neg h9, if_neg h11]; try rfl) rfl rfl rfl
      · skip
        exact am_ri (S := sZ_fieldB) (by unfold rZ_fieldB; simp only [if_neg h1, if_neg h2, if_neg h7]; try rfl) rfl rfl rfl
noncomputable def rZ_fieldC (p q : Int32) : Int32 := if (4 : Int32) ≤ p then if p = (7 : Int32) then (((q >>> ((25 : Int32) &&& 31)) <<< ((5 : Int32) &&& 31)) ||| ((q >>> ((7 : Int32) &&& 31)) &&& (31 : Int32))) else if p < (8 : Int32) then if p = (4 : Int32) then (q >>> ((20 : Int32) &&& 31)) else if p = (6 : Int32) then (q >>> ((20 : Int32) &&& 31)) else if p = (12 : Int32) then (q >>> ((20 : Int32) &&& 31)) else (0 : Int32) else if (10 : Int32) < p then if p = (4 : Int32) then (q >>> ((20 : Int32) &&& 31)) else if p = (6 : Int32) then (q >>> ((20 : Int32) &&& 31)) else if p = (12 : Int32) then (q >>> ((20 : Int32) &&& 31)) else (0 : Int32) else (((((q >>> ((31 : Int32) &&& 31)) <<< ((12 : Int32) &&& 31)) ||| (((q >>> ((7 : Int32) &&& 31)) &&& (1 : Int32)) <<< ((11 : Int32) &&& 31))) ||| (((q >>> ((25 : Int32) &&& 31)) &&& (63 : Int32)) <<< ((5 : Int32) &&& 31))) ||| (((q >>> ((8 : Int32) &&& 31)) &&& (15 : Int32)) <<< ((1 : Int32) &&& 31))) else ((q >>> ((20 : Int32) &&& 31)) &&& (31 : Int32))
set_option maxHeartbeats 4000000 in
set_option maxRecDepth 100000 in
theorem eZ_fieldC (p q : Int32) (ab : List am_Cl) : am_Ev sZ_fieldC [.int p, .int q] ab (some (.int (rZ_fieldC p q))) ab := by
  refine am_Ev_of cwZ_fieldC rfl rfl rfl (am_wp_T gdZ_fieldC 400 ?_)
  refine am_split (fun h1 => ?_) (fun h1 => ?_)
  · skip
    refine am_split (fun h2 => ?_) (fun h2 => ?_)
    · skip
      exact am_ri (S := sZ_fieldC) (by unfold rZ_fieldC; simp only [if_pos h1, if_pos h2]; try rfl) rfl rfl rfl
    · skip
      refine am_split (fun h3 => ?_) (fun h3 => ?_)
      · skip
        refine am_split (fun h4 => ?_) (fun h4 => ?_)
        · skip
          exact am_ri (S := sZ_fieldC) (by unfold rZ_fieldC; simp only [if_pos h1, if_neg h2, if_pos h3, if_pos h4]; try rfl) rfl rfl rfl
        · skip
          refine am_split (fun h5 => ?_) (fun h5 => ?_)
          · skip
            exact am_ri (S := sZ_fieldC) (by unfold rZ_fieldC; simp only [if_pos h1, if_neg h2, if_pos h3, if_neg h4, if_pos h5]; try rfl) rfl rfl rfl
          · skip
            refine am_split (fun h6 => ?_) (fun h6 => ?_)
            · skip
              exact am_ri (S := sZ_fieldC) (by unfold rZ_fieldC; simp only [if_pos h1, if_neg h2, if_pos h3, if_neg h4, if_neg h5, if_pos h6]; try rfl) rfl rfl rfl
            · skip
              exact am_ri (S := sZ_fieldC) (by unfold rZ_fieldC; simp only [if_pos h1, if_neg h2, if_pos h3, if_neg h4, if_neg h5, if_neg h6]; try rfl) rfl rfl rfl
      · skip
        refine am_split (fun h7 => ?_) (fun h7 => ?_)
        · skip
          refine am_split (fun h8 => ?_) (fun h8 => ?_)
          · skip
            exact am_ri (S := sZ_fieldC) (by unfold rZ_fieldC; simp only [if_pos h1, if_neg h2, if_neg h3, if_pos h7, if_pos h8]; try rfl) rfl rfl rfl
          · skip
            refine am_split (fun h9 => ?_) (fun h9 => ?_)
            · skip
              exact am_ri (S := sZ_fieldC) (by unfold rZ_fieldC; simp only [if_pos h1, if_neg h2, if_neg h3, if_pos h7, if_neg h8, if_pos h9]; try rfl) rfl rfl rfl
            · skip
              refine am_split (fun h10 => ?_) (fun h10 => ?_)
              · skip
                exact am_ri (S := sZ_fieldC) (by unfold rZ_fieldC; simp only [if_pos h1, if_neg h2, if_neg h3, if_pos h7, if_neg h8, if_neg h9, if_pos h10]; try rfl) rfl rfl rfl
              · skip
                exact am_ri (S := sZ_fieldC) (by unfold rZ_fieldC; simp only [if_pos h1, if_neg h2, if_neg h3, if_pos h7, if_neg h8, if_neg h9, if_neg h10]; try rfl) rfl rfl rfl
        · skip
          exact am_ri (S := sZ_fieldC) (by unfold rZ_fieldC; simp only [if_pos h1, if_neg h2, if_neg h3, if_neg h7]; try rfl) rfl rfl rfl
  · skip
    exact am_ri (S := sZ_fieldC) (by unfold rZ_fieldC; simp only [if_neg h1]; try rfl) rfl rfl rfl
noncomputable def rZ_isLong (p : Int32) : Int32 := if (p &&& (3 : Int32)) = (3 : Int32) then (1 : Int32) else (0 : Int32)
set_option maxHeartbeats 4000000 in
set_option maxRecDepth 100000 in
theorem eZ_isLong (p : Int32) (ab : List am_Cl) : am_Ev sZ_isLong [.int p] ab (some (.int (rZ_isLong p))) ab := by
  refine am_Ev_of cwZ_isLong rfl rfl rfl (am_wp_T gdZ_isLong 400 ?_)
  refine am_split (fun h1 => ?_) (fun h1 => ?_)
  · skip
    exact am_ri (S := sZ_isLong) (by unfold rZ_isLong; simp only [if_pos h1]; try rfl) rfl rfl rfl
  · skip
    exact am_ri (S := sZ_isLong) (by unfold rZ_isLong; simp only [if_neg h1]; try rfl) rfl rfl rfl
theorem zoZ_isLong (p : Int32) : rZ_isLong p = 0 ∨ rZ_isLong p = 1 := by
  unfold rZ_isLong
  repeat' (first | with_reducible refine zo_ite ?_ ?_ | with_reducible exact Or.inl rfl | with_reducible exact Or.inr rfl)
noncomputable def rZ_notOwn (p : Int32) : Int32 := if p < (0 : Int32) then (1 : Int32) else if p ≤ (26 : Int32) then (0 : Int32) else (1 : Int32)
set_option maxHeartbeats 4000000 in
set_option maxRecDepth 100000 in
theorem eZ_notOwn (p : Int32) (ab : List am_Cl) : am_Ev sZ_notOwn [.int p] ab (some (.int (rZ_notOwn p))) ab := by
  refine am_Ev_of cwZ_notOwn rfl rfl rfl (am_wp_T gdZ_notOwn 400 ?_)
  refine am_split (fun h1 => ?_) (fun h1 => ?_)
  · skip
    exact am_ri (S := sZ_notOwn) (by unfold rZ_notOwn; simp only [if_pos h1]; try rfl) rfl rfl rfl
  · skip
    refine am_split (fun h2 => ?_) (fun h2 => ?_)
    · skip
      exact am_ri (S := sZ_notOwn) (by unfold rZ_notOwn; simp only [if_neg h1, if_pos h2]; try rfl) rfl rfl rfl
    · skip
      exact am_ri (S := sZ_notOwn) (by unfold rZ_notOwn; simp only [if_neg h1, if_neg h2]; try rfl) rfl rfl rfl
theorem zoZ_notOwn (p : Int32) : rZ_notOwn p = 0 ∨ rZ_notOwn p = 1 := by
  unfold rZ_notOwn
  repeat' (first | with_reducible refine zo_ite ?_ ?_ | with_reducible exact Or.inl rfl | with_reducible exact Or.inr rfl)
noncomputable def rZ_notTarget (p : Int32) : Int32 := if p < (0 : Int32) then (1 : Int32) else if p ≤ (20 : Int32) then (0 : Int32) else (1 : Int32)
set_option maxHeartbeats 4000000 in
set_option maxRecDepth 100000 in
theorem eZ_notTarget (p : Int32) (ab : List am_Cl) : am_Ev sZ_notTarget [.int p] ab (some (.int (rZ_notTarget p))) ab := by
  refine am_Ev_of cwZ_notTarget rfl rfl rfl (am_wp_T gdZ_notTarget 400 ?_)
  refine am_split (fun h1 => ?_) (fun h1 => ?_)
  · skip
    exact am_ri (S := sZ_notTarget) (by unfold rZ_notTarget; simp only [if_pos h1]; try rfl) rfl rfl rfl
  · skip
    refine am_split (fun h2 => ?_) (fun h2 => ?_)
    · skip
      exact am_ri (S := sZ_notTarget) (by unfold rZ_notTarget; simp only [if_neg h1, if_pos h2]; try rfl) rfl rfl rfl
    · skip
      exact am_ri (S := sZ_notTarget) (by unfold rZ_notTarget; simp only [if_neg h1, if_neg h2]; try rfl) rfl rfl rfl
theorem zoZ_notTarget (p : Int32) : rZ_notTarget p = 0 ∨ rZ_notTarget p = 1 := by
  unfold rZ_notTarget
  repeat' (first | with_reducible refine zo_ite ?_ ?_ | with_reducible exact Or.inl rfl | with_reducible exact Or.inr rfl)
noncomputable def rZ_isLine (p q r s : Int32) : Int32 := if (rZ_outside p (0 : Int32) (16 : Int32)) = (0 : Int32) then if p = (15 : Int32) then if (rZ_outside q (0 : Int32) (2 : Int32)) = (0 : Int32) then (1 : Int32) else (0 : Int32) else if p = (16 : Int32) then if (rZ_notOwn q) = (0 : Int32) then if (rZ_notTarget r) = (0 : Int32) then (1 : Int32) else (0 : Int32) else (0 : Int32) else if p = (11 : Int32) then if (rZ_notOwn q) = (0 : Int32) then if (rZ_notTarget r) = (0 : Int32) then (1 : Int32) else (0 : Int32) else (0 : Int32) else if p < (8 : Int32) then if (rZ_notOwn q) = (0 : Int32) then if p = (5 : Int32) then if (4 : Int32) ≤ p then if p = (12 : Int32) then (rZ_fits p q r (0 : Int32)) else (rZ_fits p q r s) else if (rZ_notOwn s) = (0 : Int32) then if p = (12 : Int32) then (rZ_fits p q r (0 : Int32)) else (rZ_fits p q r s) else (0 : Int32) else if p = (13 : Int32) then if (4 : Int32) ≤ p then if p = (12 : Int32) then (rZ_fits p q r (0 : Int32)) else (rZ_fits p q r s) else if (rZ_notOwn s) = (0 : Int32) then if p = (12 : Int32) then (rZ_fits p q r (0 : Int32)) else (rZ_fits p q r s) else (0 : Int32) else if (rZ_notOwn r) = (0 : Int32) then if (4 : Int32) ≤ p then if p = (12 : Int32) then (rZ_fits p q r (0 : Int32)) else (rZ_fits p q r s) else if (rZ_notOwn s) = (0 : Int32) then if p = (12 : Int32) then (rZ_fits p q r (0 : Int32)) else (rZ_fits p q r s) else (0 : Int32) else (0 : Int32) else (0 : Int32) else if (10 : Int32) < p then if (rZ_notOwn q) = (0 : Int32) then if p = (5 : Int32) then if (4 : Int32) ≤ p then if p = (12 : Int32) then (rZ_fits p q r (0 : Int32)) else (rZ_fits p q r s) else if (rZ_notOwn s) = (0 : Int32) then if p = (12 : Int32) then (rZ_fits p q r (0 : Int32)) else (rZ_fits p q r s) else (0 : Int32) else if p = (13 : Int32) then if (4 : Int32) ≤ p then if p = (12 : Int32) then (rZ_fits p q r (0 : Int32)) else (rZ_fits p q r s) else if (rZ_notOwn s) = (0 : Int32) then if p = (12 : Int32) then (rZ_fits p q r (0 : Int32)) else (rZ_fits p q r s) else (0 : Int32) else if (rZ_notOwn r) = (0 : Int32) then if (4 : Int32) ≤ p then if p = (12 : Int32) then (rZ_fits p q r (0 : Int32)) else (rZ_fits p q r s) else if (rZ_notOwn s) = (0 : Int32) then if p = (12 : Int32) then (rZ_fits p q r (0 : Int32)) else (rZ_fits p q r s) else (0 : Int32) else (0 : Int32) else (0 : Int32) else if (rZ_notOwn q) = (0 : Int32) then if (rZ_notOwn r) = (0 : Int32) then if (rZ_notTarget s) = (0 : Int32) then (1 : Int32) else (0 : Int32) else (0 : Int32) else (0 : Int32) else (0 : Int32)
set_option maxHeartbeats 4000000 in
set_option maxRecDepth 100000 in
theorem eZ_isLine (p q r s : Int32) (ab : List am_Cl) : am_Ev sZ_isLine [.int p, .int q, .int r, .int s] ab (some (.int (rZ_isLine p q r s))) ab := by
  refine am_Ev_of cwZ_isLine rfl rfl rfl (am_wp_T gdZ_isLine 400 ?_)
  refine am_call (eZ_outside p (0 : Int32) (16 : Int32) _) ?_
  refine am_split (fun h1 => ?_) (fun h1 => ?_)
  · skip
    refine am_split (fun h2 => ?_) (fun h2 => ?_)
    · skip
      refine am_call (eZ_outside q (0 : Int32) (2 : Int32) _) ?_
      refine am_split (fun h3 => ?_) (fun h3 => ?_)
      · skip
        exact am_ri (S := sZ_isLine) (by unfold rZ_isLine; simp only [if_pos h1, if_pos h2, if_pos h3]; try rfl) rfl rfl rfl
      · skip
        exact am_ri (S := sZ_isLine) (by unfold rZ_isLine; simp only [if_pos h1, if_pos h2, if_neg h3]; try rfl) rfl rfl rfl
    · skip
      refine am_split (fun h4 => ?_) (fun h4 => ?_)
      · skip
        refine am_call (eZ_notOwn q _) ?_
        refine am_split (fun h5 => ?_) (fun h5 => ?_)
        · skip
          refine am_call (eZ_notTarget r _) ?_
          refine am_split (fun h6 => ?_) (fun h6 => ?_)
          · skip
            exact am_ri (S := sZ_isLine) (by unfold rZ_isLine; simp only [if_pos h1, if_neg h2, if_pos h4, if_pos h5, if_pos h6]; try rfl) rfl rfl rfl
          · skip
            exact am_ri (S := sZ_isLine) (by unfold rZ_isLine; simp only [if_pos h1, if_neg h2, if_pos h4, if_pos h5, if_neg h6]; try rfl) rfl rfl rfl
        · skip
          exact am_ri (S := sZ_isLine) (by unfold rZ_isLine; simp only [if_pos h1, if_neg h2, if_pos h4, if_neg h5]; try rfl) rfl rfl rfl
      · skip
        refine am_split (fun h7 => ?_) (fun h7 => ?_)
        · skip
          refine am_call (eZ_notOwn q _) ?_
          refine am_split (fun h8 => ?_) (fun h8 => ?_)
          · skip
            refine am_call (eZ_notTarget r _) ?_
            refine am_split (fun h9 => ?_) (fun h9 => ?_)
            · skip
              exact am_ri (S := sZ_isLine) (by unfold rZ_isLine; simp only [if_pos h1, if_neg h2, if_neg h4, if_pos h7, if_pos h8, if_pos h9]; try rfl) rfl rfl rfl
            · skip
              exact am_ri (S := sZ_isLine) (by unfold rZ_isLine; simp only [if_pos h1, if_neg h2, if_neg h4, if_pos h7, if_pos h8, if_neg h9]; try rfl) rfl rfl rfl
          · skip
            exact am_ri (S := sZ_isLine) (by unfold rZ_isLine; simp only [if_pos h1, if_neg h2, if_neg h4, if_pos h7, if_neg h8]; try rfl) rfl rfl rfl
        · skip
          refine am_split (fun h10 => ?_) (fun h10 => ?_)
          · skip
            refine am_call (eZ_notOwn q _) ?_
            refine am_split (fun h11 => ?_) (fun h11 => ?_)
            · skip
              refine am_split (fun h12 => ?_) (fun h12 => ?_)
              · skip
                refine am_split (fun h13 => ?_) (fun h13 => ?_)
                · skip
                  refine am_split (fun h14 => ?_) (fun h14 => ?_)
                  · skip
                    refine am_call (eZ_fits p q r (0 : Int32) _) ?_
                    exact am_ri (S := sZ_isLine) (by unfold rZ_isLine; simp only [if_pos h1, if_neg h2, if_neg h4, if_neg h7, if_pos h10, if_pos h11, if_pos h12, if_pos h13, if_pos h14]; try rfl) rfl rfl (am_nz (zoZ_fits p q r (0 : Int32)))
                  · skip
                    refine am_call (eZ_fits p q r s _) ?_
                    exact am_ri (S := sZ_isLine) (by unfold rZ_isLine; simp only [if_pos h1, if_neg h2, if_neg h4, if_neg h7, if_pos h10, if_pos h11, if_pos h12, if_pos h13, if_neg h14]; try rfl) rfl rfl (am_nz (zoZ_fits p q r s))
                · skip
                  refine am_call (eZ_notOwn s _) ?_
                  refine am_split (fun h15 => ?_) (fun h15 => ?_)
                  · skip
                    refine am_split (fun h16 => ?_) (fun h16 => ?_)
                    · skip
                      refine am_call (eZ_fits p q r (0 : Int32) _) ?_
                      exact am_ri (S := sZ_isLine) (by unfold rZ_isLine; simp only [if_pos h1, if_neg h2, if_neg h4, if_neg h7, if_pos h10, if_pos h11, if_pos h12, if_neg h13, if_pos h15, if_pos h16]; try rfl) rfl rfl (am_nz (zoZ_fits p q r (0 : Int32)))
                    · skip
                      refine am_call (eZ_fits p q r s _) ?_
                      exact am_ri (S := sZ_isLine) (by unfold rZ_isLine; simp only [if_pos h1, if_neg h2, if_neg h4, if_neg h7, if_pos h10, if_pos h11, if_pos h12, if_neg h13, if_pos h15, if_neg h16]; try rfl) rfl rfl (am_nz (zoZ_fits p q r s))
                  · skip
                    exact am_ri (S := sZ_isLine) (by unfold rZ_isLine; simp only [if_pos h1, if_neg h2, if_neg h4, if_neg h7, if_pos h10, if_pos h11, if_pos h12, if_neg h13, if_neg h15]; try rfl) rfl rfl rfl
              · skip
                refine am_split (fun h17 => ?_) (fun h17 => ?_)
                · skip
                  refine am_split (fun h18 => ?_) (fun h18 => ?_)
                  · skip
                    refine am_split (fun h19 => ?_) (fun h19 => ?_)
                    · skip
                      refine am_call (eZ_fits p q r (0 : Int32) _) ?_
                      exact am_ri (S := sZ_isLine) (by unfold rZ_isLine; simp only [if_pos h1, if_neg h2, if_neg h4, if_neg h7, if_pos h10, if_pos h11, if_neg h12, if_pos h17, if_pos h18, if_pos h19]; try rfl) rfl rfl (am_nz (zoZ_fits p q r (0 : Int32)))
                    · skip
                      refine am_call (eZ_fits p q r s _) ?_
                      exact am_ri (S := sZ_isLine) (by unfold rZ_isLine; simp only [if_pos h1, if_neg h2, if_neg h4, if_neg h7, if_pos h10, if_pos h11, if_neg h12, if_pos h17, if_pos h18, if_neg h19]; try rfl) rfl rfl (am_nz (zoZ_fits p q r s))
                  · skip
                    refine am_call (eZ_notOwn s _) ?_
                    refine am_split (fun h20 => ?_) (fun h20 => ?_)
                    · skip
                      refine am_split (fun h21 => ?_) (fun h21 => ?_)
                      · skip
                        refine am_call (eZ_fits p q r (0 : Int32) _) ?_
                        exact am_ri (S := sZ_isLine) (by unfold rZ_isLine; simp only [if_pos h1, if_neg h2, if_neg h4, if_neg h7, if_pos h10, if_pos h11, if_neg h12, if_pos h17, if_neg h18, if_pos h20, if_pos h21]; try rfl) rfl rfl (am_nz (zoZ_fits p q r (0 : Int32)))
                      · skip
                        refine am_call (eZ_fits p q r s _) ?_
                        exact am_ri (S := sZ_isLine) (by unfold rZ_isLine; simp only [if_pos h1, if_neg h2, if_neg h4, if_neg h7, if_pos h10, if_pos h11, if_neg h12, if_pos h17, if_neg h18, if_pos h20, if_neg h21]; try rfl) rfl rfl (am_nz (zoZ_fits p q r s))
                    · skip
                      exact am_ri (S := sZ_isLine) (by unfold rZ_isLine; simp only [if_pos h1, if_neg h2, if_neg h4, if_neg h7, if_pos h10, if_pos h11, if_neg h12, if_pos h17, if_neg h18, if_neg h20]; try rfl) rfl rfl rfl
                · skip
                  refine am_call (eZ_notOwn r _) ?_
                  refine am_split (fun h22 => ?_) (fun h22 => ?_)
                  · skip
                    refine am_split (fun h23 => ?_) (fun h23 => ?_)
                    · skip
                      refine am_split (fun h24 => ?_) (fun h24 => ?_)
                      · skip
                        refine am_call (eZ_fits p q r (0 : Int32) _) ?_
                        exact am_ri (S := sZ_isLine) (by unfold rZ_isLine; simp only [if_pos h1, if_neg h2, if_neg h4, if_neg h7, if_pos h10, if_pos h11, if_neg h12, if_neg h17, if_pos h22, if_pos h23, if_pos h24]; try rfl) rfl rfl (am_nz (zoZ_fits p q r (0 : Int32)))
                      · skip
                        refine am_call (eZ_fits p q r s _) ?_
                        exact am_ri (S := sZ_isLine) (by unfold rZ_isLine; simp only [if_pos h1, if_neg h2, if_neg h4, if_neg h7, if_pos h10, if_pos h11, if_neg h12, if_neg h17, if_pos h22, if_pos h23, if_neg h24]; try rfl) rfl rfl (am_nz (zoZ_fits p q r s))
                    · skip
                      refine am_call (eZ_notOwn s _) ?_
                      refine am_split (fun h25 => ?_) (fun h25 => ?_)
                      · skip
                        refine am_split (fun h26 => ?_) (fun h26 => ?_)
                        · skip
                          refine am_call (eZ_fits p q r (0 : Int32) _) ?_
                          exact am_ri (S := sZ_isLine) (by unfold rZ_isLine; simp only [if_pos h1, if_neg h2, if_neg h4, if_neg h7, if_pos h10, if_pos h11, if_neg h12, if_neg h17, if_pos h22, if_neg h23, if_pos h25, if_pos h26]; try rfl) rfl rfl (am_nz (zoZ_fits p q r (0 : Int32)))
                        · skip
                          refine am_call (eZ_fits p q r s _) ?_
                          exact am_ri (S := sZ_isLine) (by unfold rZ_isLine; simp only [if_pos h1, if_neg h2, if_neg h4, if_neg h7, if_pos h10, if_pos h11, if_neg h12, if_neg h17, if_pos h22, if_neg h23, if_pos h25, if_neg h26]; try rfl) rfl rfl (am_nz (zoZ_fits p q r s))
                      · skip
                        exact am_ri (S := sZ_isLine) (by unfold rZ_isLine; simp only [if_pos h1, if_neg h2, if_neg h4, if_neg h7, if_pos h10, if_pos h11, if_neg h12, if_neg h17, if_pos h22, if_neg h23, if_neg h25]; try rfl) rfl rfl rfl
                  · skip
                    exact am_ri (S := sZ_isLine) (by unfold rZ_isLine; simp only [if_pos h1, if_neg h2, if_neg h4, if_neg h7, if_pos h10, if_pos h11, if_neg h12, if_neg h17, if_neg h22]; try rfl) rfl rfl rfl
            · skip
              exact am_ri (S := sZ_isLine) (by unfold rZ_isLine; simp only [if_pos h1, if_neg h2, if_neg h4, if_neg h7, if_pos h10, if_neg h11]; try rfl) rfl rfl rfl
          · skip
            refine am_split (fun h27 => ?_) (fun h27 => ?_)
            · skip
              refine am_call (eZ_notOwn q _) ?_
              refine am_split (fun h28 => ?_) (fun h28 => ?_)
              · skip
                refine am_split (fun h29 => ?_) (fun h29 => ?_)
                · skip
                  refine am_split (fun h30 => ?_) (fun h30 => ?_)
                  · skip
                    refine am_split (fun h31 => ?_) (fun h31 => ?_)
                    · skip
                      refine am_call (eZ_fits p q r (0 : Int32) _) ?_
                      exact am_ri (S := sZ_isLine) (by unfold rZ_isLine; simp only [if_pos h1, if_neg h2, if_neg h4, if_neg h7, if_neg h10, if_pos h27, if_pos h28, if_pos h29, if_pos h30, if_pos h31]; try rfl) rfl rfl (am_nz (zoZ_fits p q r (0 : Int32)))
                    · skip
                      refine am_call (eZ_fits p q r s _) ?_
                      exact am_ri (S := sZ_isLine) (by unfold rZ_isLine; simp only [if_pos h1, if_neg h2, if_neg h4, if_neg h7, if_neg h10, if_pos h27, if_pos h28, if_pos h29, if_pos h30, if_neg h31]; try rfl) rfl rfl (am_nz (zoZ_fits p q r s))
                  · skip
                    refine am_call (eZ_notOwn s _) ?_
                    refine am_split (fun h32 => ?_) (fun h32 => ?_)
                    · skip
                      refine am_split (fun h33 => ?_) (fun h33 => ?_)
                      · skip
                        refine am_call (eZ_fits p q r (0 : Int32) _) ?_
                        exact am_ri (S := sZ_isLine) (by unfold rZ_isLine; simp only [if_pos h1, if_neg h2, if_neg h4, if_neg h7, if_neg h10, if_pos h27, if_pos h28, if_pos h29, if_neg h30, if_pos h32, if_pos h33]; try rfl) rfl rfl (am_nz (zoZ_fits p q r (0 : Int32)))
                      · skip
                        refine am_call (eZ_fits p q r s _) ?_
                        exact am_ri (S := sZ_isLine) (by unfold rZ_isLine; simp only [if_pos h1, if_neg h2, if_neg h4, if_neg h7, if_neg h10, if_pos h27, if_pos h28, if_pos h29, if_neg h30, if_pos h32, if_neg h33]; try rfl) rfl rfl (am_nz (zoZ_fits p q r s))
                    · skip
                      exact am_ri (S := sZ_isLine) (by unfold rZ_isLine; simp only [if_pos h1, if_neg h2, if_neg h4, if_neg h7, if_neg h10, if_pos h27, if_pos h28, if_pos h29, if_neg h30, if_neg h32]; try rfl) rfl rfl rfl
                · skip
                  refine am_split (fun h34 => ?_) (fun h34 => ?_)
                  · skip
                    refine am_split (fun h35 => ?_) (fun h35 => ?_)
                    · skip
                      refine am_split (fun h36 => ?_) (fun h36 => ?_)
                      · skip
                        refine am_call (eZ_fits p q r (0 : Int32) _) ?_
                        exact am_ri (S := sZ_isLine) (by unfold rZ_isLine; simp only [if_pos h1, if_neg h2, if_neg h4, if_neg h7, if_neg h10, if_pos h27, if_pos h28, if_neg h29, if_pos h34, if_pos h35, if_pos h36]; try rfl) rfl rfl (am_nz (zoZ_fits p q r (0 : Int32)))
                      · skip
                        refine am_call (eZ_fits p q r s _) ?_
                        exact am_ri (S := sZ_isLine) (by unfold rZ_isLine; simp only [if_pos h1, if_neg h2, if_neg h4, if_neg h7, if_neg h10, if_pos h27, if_pos h28, if_neg h29, if_pos h34, if_pos h35, if_neg h36]; try rfl) rfl rfl (am_nz (zoZ_fits p q r s))
                    · skip
                      refine am_call (eZ_notOwn s _) ?_
                      refine am_split (fun h37 => ?_) (fun h37 => ?_)
                      · skip
                        refine am_split (fun h38 => ?_) (fun h38 => ?_)
                        · skip
                          refine am_call (eZ_fits p q r (0 : Int32) _) ?_
                          exact am_ri (S := sZ_isLine) (by unfold rZ_isLine; simp only [if_pos h1, if_neg h2, if_neg h4, if_neg h7, if_neg h10, if_pos h27, if_pos h28, if_neg h29, if_pos h34, if_neg h35, if_pos h37, if_pos h38]; try rfl) rfl rfl (am_nz (zoZ_fits p q r (0 : Int32)))
                        · skip
                          refine am_call (eZ_fits p q r s _) ?_
                          exact am_ri (S := sZ_isLine) (by unfold rZ_isLine; simp only [if_pos h1, if_neg h2, if_neg h4, if_neg h7, if_neg h10, if_pos h27, if_pos h28, if_neg h29, if_pos h34, if_neg h35, if_pos h37, if_neg h38]; try rfl) rfl rfl (am_nz (zoZ_fits p q r s))
                      · skip
                        exact am_ri (S := sZ_isLine) (by unfold rZ_isLine; simp only [if_pos h1, if_neg h2, if_neg h4, if_neg h7, if_neg h10, if_pos h27, if_pos h28, if_neg h29, if_pos h34, if_neg h35, if_neg h37]; try rfl) rfl rfl rfl
                  · skip
                    refine am_call (eZ_notOwn r _) ?_
                    refine am_split (fun h39 => ?_) (fun h39 => ?_)
                    · skip
                      refine am_split (fun h40 => ?_) (fun h40 => ?_)
                      · skip
                        refine am_split (fun h41 => ?_) (fun h41 => ?_)
                        · skip
                          refine am_call (eZ_fits p q r (0 : Int32) _) ?_
                          exact am_ri (S := sZ_isLine) (by unfold rZ_isLine; simp only [if_pos h1, if_neg h2, if_neg h4, if_neg h7, if_neg h10, if_pos h27, if_pos h28, if_neg h29, if_neg h34, if_pos h39, if_pos h40, if_pos h41]; try rfl) rfl rfl (am_nz (zoZ_fits p q r (0 : Int32)))
                        · skip
                          refine am_call (eZ_fits p q r s _) ?_
                          exact am_ri (S := sZ_isLine) (by unfold rZ_isLine; simp only [if_pos h1, if_neg h2, if_neg h4, if_neg h7, if_neg h10, if_pos h27, if_pos h28, if_neg h29, if_neg h34, if_pos h39, if_pos h40, if_neg h41]; try rfl) rfl rfl (am_nz (zoZ_fits p q r s))
                      · skip
                        refine am_call (eZ_notOwn s _) ?_
                        refine am_split (fun h42 => ?_) (fun h42 => ?_)
                        · skip
                          refine am_split (fun h43 => ?_) (fun h43 => ?_)
                          · skip
                            refine am_call (eZ_fits p q r (0 : Int32) _) ?_
                            exact am_ri (S := sZ_isLine) (by unfold rZ_isLine; simp only [if_pos h1, if_neg h2, if_neg h4, if_neg h7, if_neg h10, if_pos h27, if_pos h28, if_neg h29, if_neg h34, if_pos h39, if_neg h40, if_pos h42, if_pos h43]; try rfl) rfl rfl (am_nz (zoZ_fits p q r (0 : Int32)))
                          · skip
                            refine am_call (eZ_fits p q r s _) ?_
                            exact am_ri (S := sZ_isLine) (by unfold rZ_isLine; simp only [if_pos h1, if_neg h2, if_neg h4, if_neg h7, if_neg h10, if_pos h27, if_pos h28, if_neg h29, if_neg h34, if_pos h39, if_neg h40, if_pos h42, if_neg h43]; try rfl) rfl rfl (am_nz (zoZ_fits p q r s))
                        · skip
                          exact am_ri (S := sZ_isLine) (by unfold rZ_isLine; simp only [if_pos h1, if_neg h2, if_neg h4, if_neg h7, if_neg h10, if_pos h27, if_pos h28, if_neg h29, if_neg h34, if_pos h39, if_neg h40, if_neg h42]; try rfl) rfl rfl rfl
                    · skip
                      exact am_ri (S := sZ_isLine) (by unfold rZ_isLine; simp only [if_pos h1, if_neg h2, if_neg h4, if_neg h7, if_neg h10, if_pos h27, if_pos h28, if_neg h29, if_neg h34, if_neg h39]; try rfl) rfl rfl rfl
              · skip
                exact am_ri (S := sZ_isLine) (by unfold rZ_isLine; simp only [if_pos h1, if_neg h2, if_neg h4, if_neg h7, if_neg h10, if_pos h27, if_neg h28]; try rfl) rfl rfl rfl
            · skip
              refine am_call (eZ_notOwn q _) ?_
              refine am_split (fun h44 => ?_) (fun h44 => ?_)
              · skip
                refine am_call (eZ_notOwn r _) ?_
                refine am_split (fun h45 => ?_) (fun h45 => ?_)
                · skip
                  refine am_call (eZ_notTarget s _) ?_
                  refine am_split (fun h46 => ?_) (fun h46 => ?_)
                  · skip
                    exact am_ri (S := sZ_isLine) (by unfold rZ_isLine; simp only [if_pos h1, if_neg h2, if_neg h4, if_neg h7, if_neg h10, if_neg h27, if_pos h44, if_pos h45, if_pos h46]; try rfl) rfl rfl rfl
                  · skip
                    exact am_ri (S := sZ_isLine) (by unfold rZ_isLine; simp only [if_pos h1, if_neg h2, if_neg h4, if_neg h7, if_neg h10, if_neg h27, if_pos h44, if_pos h45, if_neg h46]; try rfl) rfl rfl rfl
                · skip
                  exact am_ri (S := sZ_isLine) (by unfold rZ_isLine; simp only [if_pos h1, if_neg h2, if_neg h4, if_neg h7, if_neg h10, if_neg h27, if_pos h44, if_neg h45]; try rfl) rfl rfl rfl
              · skip
                exact am_ri (S := sZ_isLine) (by unfold rZ_isLine; simp only [if_pos h1, if_neg h2, if_neg h4, if_neg h7, if_neg h10, if_neg h27, if_neg h44]; try rfl) rfl rfl rfl
  · skip
    exact am_ri (S := sZ_isLine) (by unfold rZ_isLine; simp only [if_neg h1]; try rfl) rfl rfl rfl
theorem zoZ_isLine (p q r s : Int32) : rZ_isLine p q r s = 0 ∨ rZ_isLine p q r s = 1 := by
  unfold rZ_isLine
  repeat' (first | with_reducible refine zo_ite ?_ ?_ | with_reducible exact zoZ_fits .. | with_reducible exact Or.inl rfl | with_reducible exact Or.inr rfl)
noncomputable def rZ_rest (p : Int32) : Int32 := (((16 : Int32) - (p - p / (16 : Int32) * (16 : Int32))) - ((16 : Int32) - (p - p / (16 : Int32) * (16 : Int32))) / (16 : Int32) * (16 : Int32))
set_option maxHeartbeats 4000000 in
set_option maxRecDepth 100000 in
theorem eZ_rest (p : Int32) (ab : List am_Cl) : am_Ev sZ_rest [.int p] ab (some (.int (rZ_rest p))) ab := by
  refine am_Ev_of cwZ_rest rfl rfl rfl (am_wp_T gdZ_rest 400 ?_)
  exact am_ri (S := sZ_rest) rfl rfl rfl rfl
noncomputable def rZ_bytesOf (p : Int32) : Int32 := if (rZ_isLong p) = (0 : Int32) then (2 : Int32) else (4 : Int32)
set_option maxHeartbeats 4000000 in
set_option maxRecDepth 100000 in
theorem eZ_bytesOf (p : Int32) (ab : List am_Cl) : am_Ev sZ_bytesOf [.int p] ab (some (.int (rZ_bytesOf p))) ab := by
  refine am_Ev_of cwZ_bytesOf rfl rfl rfl (am_wp_T gdZ_bytesOf 400 ?_)
  refine am_call (eZ_isLong p _) ?_
  refine am_split (fun h1 => ?_) (fun h1 => ?_)
  · skip
    exact am_ri (S := sZ_bytesOf) (by unfold rZ_bytesOf; simp only [if_pos h1]; try rfl) rfl rfl rfl
  · skip
    exact am_ri (S := sZ_bytesOf) (by unfold rZ_bytesOf; simp only [if_neg h1]; try rfl) rfl rfl rfl

noncomputable def rK_begunAt (i : Nat → Int32) (a : Nat → Nat → Int32) (p : Int32) : Int32 := if p < (48 : Int32) then (0 : Int32) else if (i 5) ≤ p then (0 : Int32) else if (256 : Int32) ≤ p then (0 : Int32) else if (p - p / (2 : Int32) * (2 : Int32)) = (0 : Int32) then ((a 13) (Int32.toNatClampNeg p)) else (0 : Int32)
set_option maxHeartbeats 4000000 in
set_option maxRecDepth 100000 in
theorem eK_begunAt (i : Nat → Int32) (a : Nat → Nat → Int32) (p : Int32) (tl : List am_Cl) : am_Ev sK_begunAt [.ref 18, .int p] (wX i a tl) (some (.int (rK_begunAt i a p))) (wX i a tl) := by
  refine am_Ev_of cwK_begunAt rfl rfl rfl (am_wp_T gdK_begunAt 400 ?_)
  refine am_split (fun h1 => ?_) (fun h1 => ?_)
  · skip
    refine am_split (fun _ => ?_) (fun hz => absurd (by decide) hz)
    exact am_ri (S := sK_begunAt) (by unfold rK_begunAt; simp only [if_pos h1]; try rfl) rfl rfl rfl
  · skip
    refine am_split (fun h2 => ?_) (fun h2 => ?_)
    · skip
      refine am_split (fun _ => ?_) (fun hz => absurd (by decide) hz)
      exact am_ri (S := sK_begunAt) (by unfold rK_begunAt; simp only [if_neg h1, if_pos h2]; try rfl) rfl rfl rfl
    · skip
      refine am_split (fun h3 => ?_) (fun h3 => ?_)
      · skip
        refine am_split (fun _ => ?_) (fun hz => absurd (by decide) hz)
        exact am_ri (S := sK_begunAt) (by unfold rK_begunAt; simp only [if_neg h1, if_neg h2, if_pos h3]; try rfl) rfl rfl rfl
      · skip
        refine am_split (fun h4 => ?_) (fun h4 => ?_)
        · skip
          refine am_split (fun hz => absurd hz (by decide)) (fun _ => ?_)
          refine And.intro (by exact vp_ofl (M := 256) (K := 48) (by assumption) (by decide) (by assumption) rfl) ?_
          exact am_ri (S := sK_begunAt) (by unfold rK_begunAt; simp only [if_neg h1, if_neg h2, if_neg h3, if_pos h4]; try rfl) rfl rfl rfl
        · skip
          refine am_split (fun _ => ?_) (fun hz => absurd (by decide) hz)
          exact am_ri (S := sK_begunAt) (by unfold rK_begunAt; simp only [if_neg h1, if_neg h2, if_neg h3, if_neg h4]; try rfl) rfl rfl rfl
noncomputable def rK_before (i : Nat → Int32) (a : Nat → Nat → Int32) (p q : Int32) : Int32 := if (p - p / (16 : Int32) * (16 : Int32)) < q then (0 : Int32) else (rK_begunAt i a (p - q))
set_option maxHeartbeats 4000000 in
set_option maxRecDepth 100000 in
theorem eK_before (i : Nat → Int32) (a : Nat → Nat → Int32) (p q : Int32) (tl : List am_Cl) : am_Ev sK_before [.ref 18, .int p, .int q] (wX i a tl) (some (.int (rK_before i a p q))) (wX i a tl) := by
  refine am_Ev_of cwK_before rfl rfl rfl (am_wp_T gdK_before 400 ?_)
  refine am_split (fun h1 => ?_) (fun h1 => ?_)
  · skip
    exact am_ri (S := sK_before) (by unfold rK_before; simp only [if_pos h1]; try rfl) rfl rfl rfl
  · skip
    refine am_call (eK_begunAt i a (p - q) tl) ?_
    exact am_ri (S := sK_before) (by unfold rK_before; simp only [if_neg h1]; try rfl) rfl rfl rfl
noncomputable def rK_isDataFenced (i : Nat → Int32) (a : Nat → Nat → Int32) (p : Int32) : Int32 := if (rK_before i a p (8 : Int32)) = (31457203 : Int32) then if (rK_before i a p (4 : Int32)) = (30404531 : Int32) then (1 : Int32) else (0 : Int32) else (0 : Int32)
set_option maxHeartbeats 4000000 in
set_option maxRecDepth 100000 in
theorem eK_isDataFenced (i : Nat → Int32) (a : Nat → Nat → Int32) (p : Int32) (tl : List am_Cl) : am_Ev sK_isDataFenced [.ref 18, .int p] (wX i a tl) (some (.int (rK_isDataFenced i a p))) (wX i a tl) := by
  refine am_Ev_of cwK_isDataFenced rfl rfl rfl (am_wp_T gdK_isDataFenced 400 ?_)
  refine am_call (eK_before i a p (8 : Int32) tl) ?_
  refine am_split (fun h1 => ?_) (fun h1 => ?_)
  · skip
    refine am_call (eK_before i a p (4 : Int32) tl) ?_
    refine am_split (fun h2 => ?_) (fun h2 => ?_)
    · skip
      exact am_ri (S := sK_isDataFenced) (by unfold rK_isDataFenced; simp only [if_pos h1, if_pos h2]; try rfl) rfl rfl rfl
    · skip
      exact am_ri (S := sK_isDataFenced) (by unfold rK_isDataFenced; simp only [if_pos h1, if_neg h2]; try rfl) rfl rfl rfl
  · skip
    exact am_ri (S := sK_isDataFenced) (by unfold rK_isDataFenced; simp only [if_neg h1]; try rfl) rfl rfl rfl
theorem zoK_isDataFenced (i : Nat → Int32) (a : Nat → Nat → Int32) (p : Int32) : rK_isDataFenced i a p = 0 ∨ rK_isDataFenced i a p = 1 := by
  unfold rK_isDataFenced
  repeat' (first | with_reducible refine zo_ite ?_ ?_ | with_reducible exact Or.inl rfl | with_reducible exact Or.inr rfl)
noncomputable def rK_mayLeadTo (i : Nat → Int32) (a : Nat → Nat → Int32) (p : Int32) : Int32 := if p = (0 : Int32) then (1 : Int32) else if p = (16 : Int32) then (1 : Int32) else if p = (32 : Int32) then (1 : Int32) else if (rK_begunAt i a p) = (0 : Int32) then (0 : Int32) else if (rK_begunAt i a p) = (30404531 : Int32) then (0 : Int32) else if (rF_kindOf (rK_begunAt i a p)) = (6 : Int32) then (0 : Int32) else if (rF_kindOf (rK_begunAt i a p)) = (7 : Int32) then (0 : Int32) else if (rF_kindOf (rK_begunAt i a p)) = (12 : Int32) then (0 : Int32) else (1 : Int32)
set_option maxHeartbeats 4000000 in
set_option maxRecDepth 100000 in
theorem eK_mayLeadTo (i : Nat → Int32) (a : Nat → Nat → Int32) (p : Int32) (tl : List am_Cl) : am_Ev sK_mayLeadTo [.ref 18, .int p] (wX i a tl) (some (.int (rK_mayLeadTo i a p))) (wX i a tl) := by
  refine am_Ev_of cwK_mayLeadTo rfl rfl rfl (am_wp_T gdK_mayLeadTo 400 ?_)
  refine am_split (fun h1 => ?_) (fun h1 => ?_)
  · skip
    exact am_ri (S := sK_mayLeadTo) (by unfold rK_mayLeadTo; simp only [if_pos h1]; try rfl) rfl rfl rfl
  · skip
    refine am_split (fun h2 => ?_) (fun h2 => ?_)
    · skip
      exact am_ri (S := sK_mayLeadTo) (by unfold rK_mayLeadTo; simp only [if_neg h1, if_pos h2]; try rfl) rfl rfl rfl
    · skip
      refine am_split (fun h3 => ?_) (fun h3 => ?_)
      · skip
        exact am_ri (S := sK_mayLeadTo) (by unfold rK_mayLeadTo; simp only [if_neg h1, if_neg h2, if_pos h3]; try rfl) rfl rfl rfl
      · skip
        refine am_call (eK_begunAt i a p tl) ?_
        refine am_call (eF_kindOf (rK_begunAt i a p) _) ?_
        refine am_split (fun h4 => ?_) (fun h4 => ?_)
        · skip
          exact am_ri (S := sK_mayLeadTo) (by unfold rK_mayLeadTo; simp only [if_neg h1, if_neg h2, if_neg h3, if_pos h4]; try rfl) rfl rfl rfl
        · skip
          refine am_split (fun h5 => ?_) (fun h5 => ?_)
          · skip
            exact am_ri (S := sK_mayLeadTo) (by unfold rK_mayLeadTo; simp only [if_neg h1, if_neg h2, if_neg h3, if_neg h4, if_pos h5]; try rfl) rfl rfl rfl
          · skip
            refine am_split (fun h6 => ?_) (fun h6 => ?_)
            · skip
              exact am_ri (S := sK_mayLeadTo) (by unfold rK_mayLeadTo; simp only [if_neg h1, if_neg h2, if_neg h3, if_neg h4, if_neg h5, if_pos h6]; try rfl) rfl rfl rfl
            · skip
              refine am_split (fun h7 => ?_) (fun h7 => ?_)
              · skip
                exact am_ri (S := sK_mayLeadTo) (by unfold rK_mayLeadTo; simp only [if_neg h1, if_neg h2, if_neg h3, if_neg h4, if_neg h5, if_neg h6, if_pos h7]; try rfl) rfl rfl rfl
              · skip
                refine am_split (fun h8 => ?_) (fun h8 => ?_)
                · skip
                  exact am_ri (S := sK_mayLeadTo) (by unfold rK_mayLeadTo; simp only [if_neg h1, if_neg h2, if_neg h3, if_neg h4, if_neg h5, if_neg h6, if_neg h7, if_pos h8]; try rfl) rfl rfl rfl
                · skip
                  exact am_ri (S := sK_mayLeadTo) (by unfold rK_mayLeadTo; simp only [if_neg h1, if_neg h2, if_neg h3, if_neg h4, if_neg h5, if_neg h6, if_neg h7, if_neg h8]; try rfl) rfl rfl rfl
theorem zoK_mayLeadTo (i : Nat → Int32) (a : Nat → Nat → Int32) (p : Int32) : rK_mayLeadTo i a p = 0 ∨ rK_mayLeadTo i a p = 1 := by
  unfold rK_mayLeadTo
  repeat' (first | with_reducible refine zo_ite ?_ ?_ | with_reducible exact Or.inl rfl | with_reducible exact Or.inr rfl)
noncomputable def rK_isCodeMask (i : Nat → Int32) (a : Nat → Nat → Int32) (p : Int32) : Int32 := if (p &&& (-1015809 : Int32)) = (28344243 : Int32) then (1 : Int32) else (0 : Int32)
set_option maxHeartbeats 4000000 in
set_option maxRecDepth 100000 in
theorem eK_isCodeMask (i : Nat → Int32) (a : Nat → Nat → Int32) (p : Int32) (tl : List am_Cl) : am_Ev sK_isCodeMask [.ref 18, .int p] (wX i a tl) (some (.int (rK_isCodeMask i a p))) (wX i a tl) := by
  refine am_Ev_of cwK_isCodeMask rfl rfl rfl (am_wp_T gdK_isCodeMask 400 ?_)
  refine am_split (fun h1 => ?_) (fun h1 => ?_)
  · skip
    exact am_ri (S := sK_isCodeMask) (by unfold rK_isCodeMask; simp only [if_pos h1]; try rfl) rfl rfl rfl
  · skip
    exact am_ri (S := sK_isCodeMask) (by unfold rK_isCodeMask; simp only [if_neg h1]; try rfl) rfl rfl rfl
theorem zoK_isCodeMask (i : Nat → Int32) (a : Nat → Nat → Int32) (p : Int32) : rK_isCodeMask i a p = 0 ∨ rK_isCodeMask i a p = 1 := by
  unfold rK_isCodeMask
  repeat' (first | with_reducible refine zo_ite ?_ ?_ | with_reducible exact Or.inl rfl | with_reducible exact Or.inr rfl)
noncomputable def rK_mayChangeReserved (i : Nat → Int32) (a : Nat → Nat → Int32) (p q r : Int32) : Int32 := if p = (4 : Int32) then if q = (31 : Int32) then (1 : Int32) else if r = (31457203 : Int32) then (1 : Int32) else if r = (30404531 : Int32) then (1 : Int32) else if (rK_isCodeMask i a r) = (0 : Int32) then (0 : Int32) else (1 : Int32) else if r = (31457203 : Int32) then (1 : Int32) else if r = (30404531 : Int32) then (1 : Int32) else if (rK_isCodeMask i a r) = (0 : Int32) then (0 : Int32) else (1 : Int32)
set_option maxHeartbeats 4000000 in
set_option maxRecDepth 100000 in
theorem eK_mayChangeReserved (i : Nat → Int32) (a : Nat → Nat → Int32) (p q r : Int32) (tl : List am_Cl) : am_Ev sK_mayChangeReserved [.ref 18, .int p, .int q, .int r] (wX i a tl) (some (.int (rK_mayChangeReserved i a p q r))) (wX i a tl) := by
  refine am_Ev_of cwK_mayChangeReserved rfl rfl rfl (am_wp_T gdK_mayChangeReserved 400 ?_)
  refine am_split (fun h1 => ?_) (fun h1 => ?_)
  · skip
    refine am_split (fun h2 => ?_) (fun h2 => ?_)
    · skip
      exact am_ri (S := sK_mayChangeReserved) (by unfold rK_mayChangeReserved; simp only [if_pos h1, if_pos h2]; try rfl) rfl rfl rfl
    · skip
      refine am_split (fun h3 => ?_) (fun h3 => ?_)
      · skip
        exact am_ri (S := sK_mayChangeReserved) (by unfold rK_mayChangeReserved; simp only [if_pos h1, if_neg h2, if_pos h3]; try rfl) rfl rfl rfl
      · skip
        refine am_split (fun h4 => ?_) (fun h4 => ?_)
        · skip
          exact am_ri (S := sK_mayChangeReserved) (by unfold rK_mayChangeReserved; simp only [if_pos h1, if_neg h2, if_neg h3, if_pos h4]; try rfl) rfl rfl rfl
        · skip
          refine am_call (eK_isCodeMask i a r tl) ?_
          refine am_split (fun h5 => ?_) (fun h5 => ?_)
          · skip
            exact am_ri (S := sK_mayChangeReserved) (by unfold rK_mayChangeReserved; simp only [if_pos h1, if_neg h2, if_neg h3, if_neg h4, if_pos h5]; try rfl) rfl rfl rfl
          · skip
            exact am_ri (S := sK_mayChangeReserved) (by unfold rK_mayChangeReserved; simp only [if_pos h1, if_neg h2, if_neg h3, if_neg h4, if_neg h5]; try rfl) rfl rfl rfl
  · skip
    refine am_split (fun h6 => ?_) (fun h6 => ?_)
    · skip
      exact am_ri (S := sK_mayChangeReserved) (by unfold rK_mayChangeReserved; simp only [if_neg h1, if_pos h6]; try rfl) rfl rfl rfl
    · skip
      refine am_split (fun h7 => ?_) (fun h7 => ?_)
      · skip
        exact am_ri (S := sK_mayChangeReserved) (by unfold rK_mayChangeReserved; simp only [if_neg h1, if_neg h6, if_pos h7]; try rfl) rfl rfl rfl
      · skip
        refine am_call (eK_isCodeMask i a r tl) ?_
        refine am_split (fun h8 => ?_) (fun h8 => ?_)
        · skip
          exact am_ri (S := sK_mayChangeReserved) (by unfold rK_mayChangeReserved; simp only [if_neg h1, if_neg h6, if_neg h7, if_pos h8]; try rfl) rfl rfl rfl
        · skip
          exact am_ri (S := sK_mayChangeReserved) (by unfold rK_mayChangeReserved; simp only [if_neg h1, if_neg h6, if_neg h7, if_neg h8]; try rfl) rfl rfl rfl
theorem zoK_mayChangeReserved (i : Nat → Int32) (a : Nat → Nat → Int32) (p q r : Int32) : rK_mayChangeReserved i a p q r = 0 ∨ rK_mayChangeReserved i a p q r = 1 := by
  unfold rK_mayChangeReserved
  repeat' (first | with_reducible refine zo_ite ?_ ?_ | with_reducible exact Or.inl rfl | with_reducible exact Or.inr rfl)
noncomputable def rK_isSafe (i : Nat → Int32) (a : Nat → Nat → Int32) (p q : Int32) : Int32 := if (rF_kindOf q) = (6 : Int32) then if (26 : Int32) < (rF_firstOf (rF_kindOf q) q) then (0 : Int32) else if (rF_secondOf (rF_kindOf q) q) = (31 : Int32) then if (rF_thirdOf (rF_kindOf q) q) = (0 : Int32) then if (rK_isDataFenced i a p) = (0 : Int32) then (0 : Int32) else (1 : Int32) else (0 : Int32) else (0 : Int32) else if (rF_kindOf q) = (7 : Int32) then if (rF_secondOf (rF_kindOf q) q) = (31 : Int32) then if (rF_thirdOf (rF_kindOf q) q) = (0 : Int32) then if (rK_isDataFenced i a p) = (0 : Int32) then (0 : Int32) else (1 : Int32) else (0 : Int32) else (0 : Int32) else if (rF_kindOf q) = (8 : Int32) then (rK_mayLeadTo i a (p + (rF_thirdOf (rF_kindOf q) q))) else if (rF_kindOf q) = (9 : Int32) then (rK_mayLeadTo i a (p + (rF_thirdOf (rF_kindOf q) q))) else if (rF_kindOf q) = (10 : Int32) then (rK_mayLeadTo i a (p + (rF_thirdOf (rF_kindOf q) q))) else if (rF_kindOf q) = (11 : Int32) then if (26 : Int32) < (rF_firstOf (rF_kindOf q) q) then (0 : Int32) else if (rK_mayLeadTo i a (p + (rF_secondOf (rF_kindOf q) q))) = (0 : Int32) then (0 : Int32) else (1 : Int32) else if (rF_kindOf q) = (12 : Int32) then if (26 : Int32) < (rF_firstOf (rF_kindOf q) q) then (0 : Int32) else if (rF_secondOf (rF_kindOf q) q) = (31 : Int32) then if (rF_thirdOf (rF_kindOf q) q) = (0 : Int32) then if (rK_isCodeMask i a (rK_before i a p (4 : Int32))) = (0 : Int32) then (0 : Int32) else (1 : Int32) else (0 : Int32) else (0 : Int32) else if (rF_firstOf (rF_kindOf q) q) ≤ (26 : Int32) then (1 : Int32) else if (rK_mayChangeReserved i a (rF_kindOf q) (rF_firstOf (rF_kindOf q) q) q) = (0 : Int32) then (0 : Int32) else (1 : Int32)
set_option maxHeartbeats 4000000 in
set_option maxRecDepth 100000 in
theorem eK_isSafe (i : Nat → Int32) (a : Nat → Nat → Int32) (p q : Int32) (tl : List am_Cl) : am_Ev sK_isSafe [.ref 18, .int p, .int q] (wX i a tl) (some (.int (rK_isSafe i a p q))) (wX i a tl) := by
  refine am_Ev_of cwK_isSafe rfl rfl rfl (am_wp_T gdK_isSafe 400 ?_)
  refine am_call (eF_kindOf q _) ?_
  refine am_call (eF_firstOf (rF_kindOf q) q _) ?_
  refine am_call (eF_secondOf (rF_kindOf q) q _) ?_
  refine am_call (eF_thirdOf (rF_kindOf q) q _) ?_
  refine am_split (fun h1 => ?_) (fun h1 => ?_)
  · skip
    refine am_split (fun h2 => ?_) (fun h2 => ?_)
    · skip
      exact am_ri (S := sK_isSafe) (by unfold rK_isSafe; simp only [if_pos h1, if_pos h2]; try rfl) rfl rfl rfl
    · skip
      refine am_split (fun h3 => ?_) (fun h3 => ?_)
      · skip
        refine am_split (fun h4 => ?_) (fun h4 => ?_)
        · skip
          refine am_call (eK_isDataFenced i a p tl) ?_
          refine am_split (fun h5 => ?_) (fun h5 => ?_)
          · skip
            exact am_ri (S := sK_isSafe) (by unfold rK_isSafe; simp only [if_pos h1, if_neg h2, if_pos h3, if_pos h4, if_pos h5]; try rfl) rfl rfl rfl
          · skip
            exact am_ri (S := sK_isSafe) (by unfold rK_isSafe; simp only [if_pos h1, if_neg h2, if_pos h3, if_pos h4, if_neg h5]; try rfl) rfl rfl rfl
        · skip
          exact am_ri (S := sK_isSafe) (by unfold rK_isSafe; simp only [if_pos h1, if_neg h2, if_pos h3, if_neg h4]; try rfl) rfl rfl rfl
      · skip
        exact am_ri (S := sK_isSafe) (by unfold rK_isSafe; simp only [if_pos h1, if_neg h2, if_neg h3]; try rfl) rfl rfl rfl
  · skip
    refine am_split (fun h6 => ?_) (fun h6 => ?_)
    · skip
      refine am_split (fun h7 => ?_) (fun h7 => ?_)
      · skip
        refine am_split (fun h8 => ?_) (fun h8 => ?_)
        · skip
          refine am_call (eK_isDataFenced i a p tl) ?_
          refine am_split (fun h9 => ?_) (fun h9 => ?_)
          · skip
            exact am_ri (S := sK_isSafe) (by unfold rK_isSafe; simp only [if_neg h1, if_pos h6, if_pos h7, if_pos h8, if_pos h9]; try rfl) rfl rfl rfl
          · skip
            exact am_ri (S := sK_isSafe) (by unfold rK_isSafe; simp only [if_neg h1, if_pos h6, if_pos h7, if_pos h8, if_neg h9]; try rfl) rfl rfl rfl
        · skip
          exact am_ri (S := sK_isSafe) (by unfold rK_isSafe; simp only [if_neg h1, if_pos h6, if_pos h7, if_neg h8]; try rfl) rfl rfl rfl
      · skip
        exact am_ri (S := sK_isSafe) (by unfold rK_isSafe; simp only [if_neg h1, if_pos h6, if_neg h7]; try rfl) rfl rfl rfl
    · skip
      refine am_split (fun h10 => ?_) (fun h10 => ?_)
      · skip
        refine am_call (eK_mayLeadTo i a (p + (rF_thirdOf (rF_kindOf q) q)) tl) ?_
        exact am_ri (S := sK_isSafe) (by unfold rK_isSafe; simp only [if_neg h1, if_neg h6, if_pos h10]; try rfl) rfl rfl (am_nz (zoK_mayLeadTo i a (p + (rF_thirdOf (rF_kindOf q) q))))
      · skip
        refine am_split (fun h11 => ?_) (fun h11 => ?_)
        · skip
          refine am_call (eK_mayLeadTo i a (p + (rF_thirdOf (rF_kindOf q) q)) tl) ?_
          exact am_ri (S := sK_isSafe) (by unfold rK_isSafe; simp only [if_neg h1, if_neg h6, if_neg h10, if_pos h11]; try rfl) rfl rfl (am_nz (zoK_mayLeadTo i a (p + (rF_thirdOf (rF_kindOf q) q))))
        · skip
          refine am_split (fun h12 => ?_) (fun h12 => ?_)
          · skip
            refine am_call (eK_mayLeadTo i a (p + (rF_thirdOf (rF_kindOf q) q)) tl) ?_
            exact am_ri (S := sK_isSafe) (by unfold rK_isSafe; simp only [if_neg h1, if_neg h6, if_neg h10, if_neg h11, if_pos h12]; try rfl) rfl rfl (am_nz (zoK_mayLeadTo i a (p + (rF_thirdOf (rF_kindOf q) q))))
          · skip
            refine am_split (fun h13 => ?_) (fun h13 => ?_)
            · skip
              refine am_split (fun h14 => ?_) (fun h14 => ?_)
              · skip
                exact am_ri (S := sK_isSafe) (by unfold rK_isSafe; simp only [if_neg h1, if_neg h6, if_neg h10, if_neg h11, if_neg h12, if_pos h13, if_pos h14]; try rfl) rfl rfl rfl
              · skip
                refine am_call (eK_mayLeadTo i a (p + (rF_secondOf (rF_kindOf q) q)) tl) ?_
                refine am_split (fun h15 => ?_) (fun h15 => ?_)
                · skip
                  exact am_ri (S := sK_isSafe) (by unfold rK_isSafe; simp only [if_neg h1, if_neg h6, if_neg h10, if_neg h11, if_neg h12, if_pos h13, if_neg h14, if_pos h15]; try rfl) rfl rfl rfl
                · skip
                  exact am_ri (S := sK_isSafe) (by unfold rK_isSafe; simp only [if_neg h1, if_neg h6, if_neg h10, if_neg h11, if_neg h12, if_pos h13, if_neg h14, if_neg h15]; try rfl) rfl rfl rfl
            · skip
              refine am_split (fun h16 => ?_) (fun h16 => ?_)
              · skip
                refine am_split (fun h17 => ?_) (fun h17 => ?_)
                · skip
                  exact am_ri (S := sK_isSafe) (by unfold rK_isSafe; simp only [if_neg h1, if_neg h6, if_neg h10, if_neg h11, if_neg h12, if_neg h13, if_pos h16, if_pos h17]; try rfl) rfl rfl rfl
                · skip
                  refine am_split (fun h18 => ?_) (fun h18 => ?_)
                  · skip
                    refine am_split (fun h19 => ?_) (fun h19 => ?_)
                    · skip
                      refine am_call (eK_before i a p (4 : Int32) tl) ?_
                      refine am_call (eK_isCodeMask i a (rK_before i a p (4 : Int32)) tl) ?_
                      refine am_split (fun h20 => ?_) (fun h20 => ?_)
                      · skip
                        exact am_ri (S := sK_isSafe) (by unfold rK_isSafe; simp only [if_neg h1, if_neg h6, if_neg h10, if_neg h11, if_neg h12, if_neg h13, if_pos h16, if_neg h17, if_pos h18, if_pos h19, if_pos h20]; try rfl) rfl rfl rfl
                      · skip
                        exact am_ri (S := sK_isSafe) (by unfold rK_isSafe; simp only [if_neg h1, if_neg h6, if_neg h10, if_neg h11, if_neg h12, if_neg h13, if_pos h16, if_neg h17, if_pos h18, if_pos h19, if_neg h20]; try rfl) rfl rfl rfl
                    · skip
                      exact am_ri (S := sK_isSafe) (by unfold rK_isSafe; simp only [if_neg h1, if_neg h6, if_neg h10, if_neg h11, if_neg h12, if_neg h13, if_pos h16, if_neg h17, if_pos h18, if_neg h19]; try rfl) rfl rfl rfl
                  · skip
                    exact am_ri (S := sK_isSafe) (by unfold rK_isSafe; simp only [if_neg h1, if_neg h6, if_neg h10, if_neg h11, if_neg h12, if_neg h13, if_pos h16, if_neg h17, if_neg h18]; try rfl) rfl rfl rfl
              · skip
                refine am_split (fun h21 => ?_) (fun h21 => ?_)
                · skip
                  exact am_ri (S := sK_isSafe) (by unfold rK_isSafe; simp only [if_neg h1, if_neg h6, if_neg h10, if_neg h11, if_neg h12, if_neg h13, if_neg h16, if_pos h21]; try rfl) rfl rfl rfl
                · skip
                  refine am_call (eK_mayChangeReserved i a (rF_kindOf q) (rF_firstOf (rF_kindOf q) q) q tl) ?_
                  refine am_split (fun h22 => ?_) (fun h22 => ?_)
                  · skip
                    exact am_ri (S := sK_isSafe) (by unfold rK_isSafe; simp only [if_neg h1, if_neg h6, if_neg h10, if_neg h11, if_neg h12, if_neg h13, if_neg h16, if_neg h21, if_pos h22]; try rfl) rfl rfl rfl
                  · skip
                    exact am_ri (S := sK_isSafe) (by unfold rK_isSafe; simp only [if_neg h1, if_neg h6, if_neg h10, if_neg h11, if_neg h12, if_neg h13, if_neg h16, if_neg h21, if_neg h22]; try rfl) rfl rfl rfl
theorem zoK_isSafe (i : Nat → Int32) (a : Nat → Nat → Int32) (p q : Int32) : rK_isSafe i a p q = 0 ∨ rK_isSafe i a p q = 1 := by
  unfold rK_isSafe
  repeat' (first | with_reducible refine zo_ite ?_ ?_ | with_reducible exact zoK_mayLeadTo .. | with_reducible exact Or.inl rfl | with_reducible exact Or.inr rfl)
noncomputable def iM_begin (i : Nat → Int32) (a : Nat → Nat → Int32) : Nat → Int32 := (sI i (48 : Int32) 11)
noncomputable def aM_begin (i : Nat → Int32) (a : Nat → Nat → Int32) : Nat → Nat → Int32 := (aU_set_M i (aU_set_M i (aU_set_M i a (27 : Int32) (240 : Int32)) (28 : Int32) (4096 : Int32)) (29 : Int32) (60 : Int32))
set_option maxHeartbeats 4000000 in
set_option maxRecDepth 100000 in
theorem eM_begin (i : Nat → Int32) (a : Nat → Nat → Int32) (tl : List am_Cl) : am_Ev sM_begin [.ref 22] (wX i a tl) none (wX (iM_begin i a ) (aM_begin i a ) tl) := by
  refine am_Ev_of cwM_begin rfl rfl rfl (am_wp_T gdM_begin 400 ?_)
  refine am_call (eU_set_M i a (27 : Int32) (240 : Int32) tl) ?_
  refine am_call (eU_set_M i (aU_set_M i a (27 : Int32) (240 : Int32)) (28 : Int32) (4096 : Int32) tl) ?_
  refine am_call (eU_set_M i (aU_set_M i (aU_set_M i a (27 : Int32) (240 : Int32)) (28 : Int32) (4096 : Int32)) (29 : Int32) (60 : Int32) tl) ?_
  exact am_rv (S := sM_begin) rfl rfl
noncomputable def iM_comeBack (i : Nat → Int32) (a : Nat → Nat → Int32) : Nat → Int32 := (sI i ((rU_get_M i a (1 : Int32)) &&& (240 : Int32)) 11)
set_option maxHeartbeats 4000000 in
set_option maxRecDepth 100000 in
theorem eM_comeBack (i : Nat → Int32) (a : Nat → Nat → Int32) (tl : List am_Cl) : am_Ev sM_comeBack [.ref 22] (wX i a tl) none (wX (iM_comeBack i a ) a tl) := by
  refine am_Ev_of cwM_comeBack rfl rfl rfl (am_wp_T gdM_comeBack 400 ?_)
  refine am_call (eU_get_M i a (1 : Int32) tl) ?_
  exact am_rv (S := sM_comeBack) rfl rfl
noncomputable def rM_stepInCode (i : Nat → Int32) (a : Nat → Nat → Int32) (p : Int32) : Int32 := if p < (48 : Int32) then (2 : Int32) else if (i 5) ≤ p then (2 : Int32) else if (p - p / (2 : Int32) * (2 : Int32)) = (0 : Int32) then if (rF_kindOf (rC_fetch i a p)) = (-1 : Int32) then (3 : Int32) else if (rF_kindOf (rC_fetch i a p)) = (6 : Int32) then if (rU_moves_M i a (rF_kindOf (rC_fetch i a p)) (rF_firstOf (rF_kindOf (rC_fetch i a p)) (rC_fetch i a p)) (rF_secondOf (rF_kindOf (rC_fetch i a p)) (rC_fetch i a p)) (rF_thirdOf (rF_kindOf (rC_fetch i a p)) (rC_fetch i a p))) = (0 : Int32) then (4 : Int32) else (0 : Int32) else if (rF_kindOf (rC_fetch i a p)) = (7 : Int32) then if (rU_moves_M i a (rF_kindOf (rC_fetch i a p)) (rF_firstOf (rF_kindOf (rC_fetch i a p)) (rC_fetch i a p)) (rF_secondOf (rF_kindOf (rC_fetch i a p)) (rC_fetch i a p)) (rF_thirdOf (rF_kindOf (rC_fetch i a p)) (rC_fetch i a p))) = (0 : Int32) then (4 : Int32) else (0 : Int32) else if (rF_kindOf (rC_fetch i a p)) = (8 : Int32) then if (rU_branches_M i a (rF_kindOf (rC_fetch i a p)) (rF_firstOf (rF_kindOf (rC_fetch i a p)) (rC_fetch i a p)) (rF_secondOf (rF_kindOf (rC_fetch i a p)) (rC_fetch i a p))) = (0 : Int32) then (0 : Int32) else (0 : Int32) else if (rF_kindOf (rC_fetch i a p)) = (9 : Int32) then if (rU_branches_M i a (rF_kindOf (rC_fetch i a p)) (rF_firstOf (rF_kindOf (rC_fetch i a p)) (rC_fetch i a p)) (rF_secondOf (rF_kindOf (rC_fetch i a p)) (rC_fetch i a p))) = (0 : Int32) then (0 : Int32) else (0 : Int32) else if (rF_kindOf (rC_fetch i a p)) = (10 : Int32) then if (rU_branches_M i a (rF_kindOf (rC_fetch i a p)) (rF_firstOf (rF_kindOf (rC_fetch i a p)) (rC_fetch i a p)) (rF_secondOf (rF_kindOf (rC_fetch i a p)) (rC_fetch i a p))) = (0 : Int32) then (0 : Int32) else (0 : Int32) else if (rF_kindOf (rC_fetch i a p)) = (11 : Int32) then (0 : Int32) else if (rF_kindOf (rC_fetch i a p)) = (12 : Int32) then (0 : Int32) else (0 : Int32) else (2 : Int32)
noncomputable def iM_stepInCode (i : Nat → Int32) (a : Nat → Nat → Int32) (p : Int32) : Nat → Int32 := if p < (48 : Int32) then i else if (i 5) ≤ p then i else if (p - p / (2 : Int32) * (2 : Int32)) = (0 : Int32) then if (rF_kindOf (rC_fetch i a p)) = (-1 : Int32) then i else if (rF_kindOf (rC_fetch i a p)) = (6 : Int32) then if (rU_moves_M i a (rF_kindOf (rC_fetch i a p)) (rF_firstOf (rF_kindOf (rC_fetch i a p)) (rC_fetch i a p)) (rF_secondOf (rF_kindOf (rC_fetch i a p)) (rC_fetch i a p)) (rF_thirdOf (rF_kindOf (rC_fetch i a p)) (rC_fetch i a p))) = (0 : Int32) then i else (sI i (p + (rF_sizeOf (rC_fetch i a p))) 11) else if (rF_kindOf (rC_fetch i a p)) = (7 : Int32) then if (rU_moves_M i a (rF_kindOf (rC_fetch i a p)) (rF_firstOf (rF_kindOf (rC_fetch i a p)) (rC_fetch i a p)) (rF_secondOf (rF_kindOf (rC_fetch i a p)) (rC_fetch i a p)) (rF_thirdOf (rF_kindOf (rC_fetch i a p)) (rC_fetch i a p))) = (0 : Int32) then i else (sI i (p + (rF_sizeOf (rC_fetch i a p))) 11) else if (rF_kindOf (rC_fetch i a p)) = (8 : Int32) then if (rU_branches_M i a (rF_kindOf (rC_fetch i a p)) (rF_firstOf (rF_kindOf (rC_fetch i a p)) (rC_fetch i a p)) (rF_secondOf (rF_kindOf (rC_fetch i a p)) (rC_fetch i a p))) = (0 : Int32) then (sI i (p + (rF_sizeOf (rC_fetch i a p))) 11) else (sI i (p + (rF_thirdOf (rF_kindOf (rC_fetch i a p)) (rC_fetch i a p))) 11) else if (rF_kindOf (rC_fetch i a p)) = (9 : Int32) then if (rU_branches_M i a (rF_kindOf (rC_fetch i a p)) (rF_firstOf (rF_kindOf (rC_fetch i a p)) (rC_fetch i a p)) (rF_secondOf (rF_kindOf (rC_fetch i a p)) (rC_fetch i a p))) = (0 : Int32) then (sI i (p + (rF_sizeOf (rC_fetch i a p))) 11) else (sI i (p + (rF_thirdOf (rF_kindOf (rC_fetch i a p)) (rC_fetch i a p))) 11) else if (rF_kindOf (rC_fetch i a p)) = (10 : Int32) then if (rU_branches_M i a (rF_kindOf (rC_fetch i a p)) (rF_firstOf (rF_kindOf (rC_fetch i a p)) (rC_fetch i a p)) (rF_secondOf (rF_kindOf (rC_fetch i a p)) (rC_fetch i a p))) = (0 : Int32) then (sI i (p + (rF_sizeOf (rC_fetch i a p))) 11) else (sI i (p + (rF_thirdOf (rF_kindOf (rC_fetch i a p)) (rC_fetch i a p))) 11) else if (rF_kindOf (rC_fetch i a p)) = (11 : Int32) then (sI i (p + (rF_secondOf (rF_kindOf (rC_fetch i a p)) (rC_fetch i a p))) 11) else if (rF_kindOf (rC_fetch i a p)) = (12 : Int32) then (sI i (((rU_get_M i a (rF_secondOf (rF_kindOf (rC_fetch i a p)) (rC_fetch i a p))) + (rF_thirdOf (rF_kindOf (rC_fetch i a p)) (rC_fetch i a p))) &&& (-2 : Int32)) 11) else (sI i (p + (rF_sizeOf (rC_fetch i a p))) 11) else i
noncomputable def aM_stepInCode (i : Nat → Int32) (a : Nat → Nat → Int32) (p : Int32) : Nat → Nat → Int32 := if p < (48 : Int32) then a else if (i 5) ≤ p then a else if (p - p / (2 : Int32) * (2 : Int32)) = (0 : Int32) then if (rF_kindOf (rC_fetch i a p)) = (-1 : Int32) then a else if (rF_kindOf (rC_fetch i a p)) = (6 : Int32) then if (rU_moves_M i a (rF_kindOf (rC_fetch i a p)) (rF_firstOf (rF_kindOf (rC_fetch i a p)) (rC_fetch i a p)) (rF_secondOf (rF_kindOf (rC_fetch i a p)) (rC_fetch i a p)) (rF_thirdOf (rF_kindOf (rC_fetch i a p)) (rC_fetch i a p))) = (0 : Int32) then (aU_moves_M i a (rF_kindOf (rC_fetch i a p)) (rF_firstOf (rF_kindOf (rC_fetch i a p)) (rC_fetch i a p)) (rF_secondOf (rF_kindOf (rC_fetch i a p)) (rC_fetch i a p)) (rF_thirdOf (rF_kindOf (rC_fetch i a p)) (rC_fetch i a p))) else (aU_moves_M i a (rF_kindOf (rC_fetch i a p)) (rF_firstOf (rF_kindOf (rC_fetch i a p)) (rC_fetch i a p)) (rF_secondOf (rF_kindOf (rC_fetch i a p)) (rC_fetch i a p)) (rF_thirdOf (rF_kindOf (rC_fetch i a p)) (rC_fetch i a p))) else if (rF_kindOf (rC_fetch i a p)) = (7 : Int32) then if (rU_moves_M i a (rF_kindOf (rC_fetch i a p)) (rF_firstOf (rF_kindOf (rC_fetch i a p)) (rC_fetch i a p)) (rF_secondOf (rF_kindOf (rC_fetch i a p)) (rC_fetch i a p)) (rF_thirdOf (rF_kindOf (rC_fetch i a p)) (rC_fetch i a p))) = (0 : Int32) then (aU_moves_M i a (rF_kindOf (rC_fetch i a p)) (rF_firstOf (rF_kindOf (rC_fetch i a p)) (rC_fetch i a p)) (rF_secondOf (rF_kindOf (rC_fetch i a p)) (rC_fetch i a p)) (rF_thirdOf (rF_kindOf (rC_fetch i a p)) (rC_fetch i a p))) else (aU_moves_M i a (rF_kindOf (rC_fetch i a p)) (rF_firstOf (rF_kindOf (rC_fetch i a p)) (rC_fetch i a p)) (rF_secondOf (rF_kindOf (rC_fetch i a p)) (rC_fetch i a p)) (rF_thirdOf (rF_kindOf (rC_fetch i a p)) (rC_fetch i a p))) else if (rF_kindOf (rC_fetch i a p)) = (8 : Int32) then if (rU_branches_M i a (rF_kindOf (rC_fetch i a p)) (rF_firstOf (rF_kindOf (rC_fetch i a p)) (rC_fetch i a p)) (rF_secondOf (rF_kindOf (rC_fetch i a p)) (rC_fetch i a p))) = (0 : Int32) then a else a else if (rF_kindOf (rC_fetch i a p)) = (9 : Int32) then if (rU_branches_M i a (rF_kindOf (rC_fetch i a p)) (rF_firstOf (rF_kindOf (rC_fetch i a p)) (rC_fetch i a p)) (rF_secondOf (rF_kindOf (rC_fetch i a p)) (rC_fetch i a p))) = (0 : Int32) then a else a else if (rF_kindOf (rC_fetch i a p)) = (10 : Int32) then if (rU_branches_M i a (rF_kindOf (rC_fetch i a p)) (rF_firstOf (rF_kindOf (rC_fetch i a p)) (rC_fetch i a p)) (rF_secondOf (rF_kindOf (rC_fetch i a p)) (rC_fetch i a p))) = (0 : Int32) then a else a else if (rF_kindOf (rC_fetch i a p)) = (11 : Int32) then (aU_set_M (sI i (p + (rF_secondOf (rF_kindOf (rC_fetch i a p)) (rC_fetch i a p))) 11) a (rF_firstOf (rF_kindOf (rC_fetch i a p)) (rC_fetch i a p)) (p + (rF_sizeOf (rC_fetch i a p)))) else if (rF_kindOf (rC_fetch i a p)) = (12 : Int32) then (aU_set_M (sI i (((rU_get_M i a (rF_secondOf (rF_kindOf (rC_fetch i a p)) (rC_fetch i a p))) + (rF_thirdOf (rF_kindOf (rC_fetch i a p)) (rC_fetch i a p))) &&& (-2 : Int32)) 11) a (rF_firstOf (rF_kindOf (rC_fetch i a p)) (rC_fetch i a p)) (p + (rF_sizeOf (rC_fetch i a p)))) else (aU_compute_M i a (rF_kindOf (rC_fetch i a p)) (rF_firstOf (rF_kindOf (rC_fetch i a p)) (rC_fetch i a p)) (rF_secondOf (rF_kindOf (rC_fetch i a p)) (rC_fetch i a p)) (rF_thirdOf (rF_kindOf (rC_fetch i a p)) (rC_fetch i a p))) else a
set_option maxHeartbeats 4000000 in
set_option maxRecDepth 100000 in
theorem eM_stepInCode (i : Nat → Int32) (a : Nat → Nat → Int32) (p : Int32) (tl : List am_Cl) : am_Ev sM_stepInCode [.ref 22, .int p] (wX i a tl) (some (.int (rM_stepInCode i a p))) (wX (iM_stepInCode i a p) (aM_stepInCode i a p) tl) := by
  refine am_Ev_of cwM_stepInCode rfl rfl rfl (am_wp_T gdM_stepInCode 400 ?_)
  refine am_split (fun h1 => ?_) (fun h1 => ?_)
  · skip
    exact am_ri (S := sM_stepInCode) (by unfold rM_stepInCode; simp only [if_pos h1]; try rfl) (by unfold iM_stepInCode aM_stepInCode; simp only [if_pos h1]; try rfl) rfl rfl
  · skip
    refine am_split (fun h2 => ?_) (fun h2 => ?_)
    · skip
      exact am_ri (S := sM_stepInCode) (by unfold rM_stepInCode; simp only [if_neg h1, if_pos h2]; try rfl) (by unfold iM_stepInCode aM_stepInCode; simp only [if_neg h1, if_pos h2]; try rfl) rfl rfl
    · skip
      refine am_split (fun h3 => ?_) (fun h3 => ?_)
      · skip
        refine am_call (eC_fetch i a p tl) ?_
        refine am_call (eF_kindOf (rC_fetch i a p) _) ?_
        refine am_split (fun h4 => ?_) (fun h4 => ?_)
        · skip
          exact am_ri (S := sM_stepInCode) (by unfold rM_stepInCode; simp only [if_neg h1, if_neg h2, if_pos h3, if_pos h4]; try rfl) (by unfold iM_stepInCode aM_stepInCode; simp only [if_neg h1, if_neg h2, if_pos h3, if_pos h4]; try rfl) rfl rfl
        · skip
          refine am_call (eF_firstOf (rF_kindOf (rC_fetch i a p)) (rC_fetch i a p) _) ?_
          refine am_call (eF_secondOf (rF_kindOf (rC_fetch i a p)) (rC_fetch i a p) _) ?_
          refine am_call (eF_thirdOf (rF_kindOf (rC_fetch i a p)) (rC_fetch i a p) _) ?_
          refine am_call (eF_sizeOf (rC_fetch i a p) _) ?_
          refine am_split (fun h5 => ?_) (fun h5 => ?_)
          · skip
            refine am_call (eU_moves_M i a (rF_kindOf (rC_fetch i a p)) (rF_firstOf (rF_kindOf (rC_fetch i a p)) (rC_fetch i a p)) (rF_secondOf (rF_kindOf (rC_fetch i a p)) (rC_fetch i a p)) (rF_thirdOf (rF_kindOf (rC_fetch i a p)) (rC_fetch i a p)) tl) ?_
            refine am_split (fun h6 => ?_) (fun h6 => ?_)
            · skip
              exact am_ri (S := sM_stepInCode) (by unfold rM_stepInCode; simp only [if_neg h1, if_neg h2, if_pos h3, if_neg h4, if_pos h5, if_pos h6]; try rfl) (by unfold iM_stepInCode aM_stepInCode; simp only [if_neg h1, if_neg h2, if_pos h3, if_neg h4, if_pos h5, if_pos h6]; try rfl) rfl rfl
            · skip
              exact am_ri (S := sM_stepInCode) (by unfold rM_stepInCode; simp only [if_neg h1, if_neg h2, if_pos h3, if_neg h4, if_pos h5, if_neg h6]; try rfl) (by unfold iM_stepInCode aM_stepInCode; simp only [if_neg h1, if_neg h2, if_pos h3, if_neg h4, if_pos h5, if_neg h6]; try rfl) rfl rfl
          · skip
            refine am_split (fun h7 => ?_) (fun h7 => ?_)
            · skip
              refine am_call (eU_moves_M i a (rF_kindOf (rC_fetch i a p)) (rF_firstOf (rF_kindOf (rC_fetch i a p)) (rC_fetch i a p)) (rF_secondOf (rF_kindOf (rC_fetch i a p)) (rC_fetch i a p)) (rF_thirdOf (rF_kindOf (rC_fetch i a p)) (rC_fetch i a p)) tl) ?_
              refine am_split (fun h8 => ?_) (fun h8 => ?_)
              · skip
                exact am_ri (S := sM_stepInCode) (by unfold rM_stepInCode; simp only [if_neg h1, if_neg h2, if_pos h3, if_neg h4, if_neg h5, if_pos h7, if_pos h8]; try rfl) (by unfold iM_stepInCode aM_stepInCode; simp only [if_neg h1, if_neg h2, if_pos h3, if_neg h4, if_neg h5, if_pos h7, if_pos h8]; try rfl) rfl rfl
              · skip
                exact am_ri (S := sM_stepInCode) (by unfold rM_stepInCode; simp only [if_neg h1, if_neg h2, if_pos h3, if_neg h4, if_neg h5, if_pos h7, if_neg h8]; try rfl) (by unfold iM_stepInCode aM_stepInCode; simp only [if_neg h1, if_neg h2, if_pos h3, if_neg h4, if_neg h5, if_pos h7, if_neg h8]; try rfl) rfl rfl
            · skip
              refine am_split (fun h9 => ?_) (fun h9 => ?_)
              · skip
                refine am_call (eU_branches_M i a (rF_kindOf (rC_fetch i a p)) (rF_firstOf (rF_kindOf (rC_fetch i a p)) (rC_fetch i a p)) (rF_secondOf (rF_kindOf (rC_fetch i a p)) (rC_fetch i a p)) tl) ?_
                refine am_split (fun h10 => ?_) (fun h10 => ?_)
                · skip
                  exact am_ri (S := sM_stepInCode) (by unfold rM_stepInCode; simp only [if_neg h1, if_neg h2, if_pos h3, if_neg h4, if_neg h5, if_neg h7, if_pos h9, if_pos h10]; try rfl) (by unfold iM_stepInCode aM_stepInCode; simp only [if_neg h1, if_neg h2, if_pos h3, if_neg h4, if_neg h5, if_neg h7, if_pos h9, if_pos h10]; try rfl) rfl rfl
                · skip
                  exact am_ri (S := sM_stepInCode) (by unfold rM_stepInCode; simp only [if_neg h1, if_neg h2, if_pos h3, if_neg h4, if_neg h5, if_neg h7, if_pos h9, if_neg h10]; try rfl) (by unfold iM_stepInCode aM_stepInCode; simp only [if_neg h1, if_neg h2, if_pos h3, if_neg h4, if_neg h5, if_neg h7, if_pos h9, if_neg h10]; try rfl) rfl rfl
              · skip
                refine am_split (fun h11 => ?_) (fun h11 => ?_)
                · skip
                  refine am_call (eU_branches_M i a (rF_kindOf (rC_fetch i a p)) (rF_firstOf (rF_kindOf (rC_fetch i a p)) (rC_fetch i a p)) (rF_secondOf (rF_kindOf (rC_fetch i a p)) (rC_fetch i a p)) tl) ?_
                  refine am_split (fun h12 => ?_) (fun h12 => ?_)
                  · skip
                    exact am_ri (S := sM_stepInCode) (by unfold rM_stepInCode; simp only [if_neg h1, if_neg h2, if_pos h3, if_neg h4, if_neg h5, if_neg h7, if_neg h9, if_pos h11, if_pos h12]; try rfl) (by unfold iM_stepInCode aM_stepInCode; simp only [if_neg h1, if_neg h2, if_pos h3, if_neg h4, if_neg h5, if_neg h7, if_neg h9, if_pos h11, if_pos h12]; try rfl) rfl rfl
                  · skip
                    exact am_ri (S := sM_stepInCode) (by unfold rM_stepInCode; simp only [if_neg h1, if_neg h2, if_pos h3, if_neg h4, if_neg h5, if_neg h7, if_neg h9, if_pos h11, if_neg h12]; try rfl) (by unfold iM_stepInCode aM_stepInCode; simp only [if_neg h1, if_neg h2, if_pos h3, if_neg h4, if_neg h5, if_neg h7, if_neg h9, if_pos h11, if_neg h12]; try rfl) rfl rfl
                · skip
                  refine am_split (fun h13 => ?_) (fun h13 => ?_)
                  · skip
                    refine am_call (eU_branches_M i a (rF_kindOf (rC_fetch i a p)) (rF_firstOf (rF_kindOf (rC_fetch i a p)) (rC_fetch i a p)) (rF_secondOf (rF_kindOf (rC_fetch i a p)) (rC_fetch i a p)) tl) ?_
                    refine am_split (fun h14 => ?_) (fun h14 => ?_)
                    · skip
                      exact am_ri (S := sM_stepInCode) (by unfold rM_stepInCode; simp only [if_neg h1, if_neg h2, if_pos h3, if_neg h4, if_neg h5, if_neg h7, if_neg h9, if_neg h11, if_pos h13, if_pos h14]; try rfl) (by unfold iM_stepInCode aM_stepInCode; simp only [if_neg h1, if_neg h2, if_pos h3, if_neg h4, if_neg h5, if_neg h7, if_neg h9, if_neg h11, if_pos h13, if_pos h14]; try rfl) rfl rfl
                    · skip
                      exact am_ri (S := sM_stepInCode) (by unfold rM_stepInCode; simp only [if_neg h1, if_neg h2, if_pos h3, if_neg h4, if_neg h5, if_neg h7, if_neg h9, if_neg h11, if_pos h13, if_neg h14]; try rfl) (by unfold iM_stepInCode aM_stepInCode; simp only [if_neg h1, if_neg h2, if_pos h3, if_neg h4, if_neg h5, if_neg h7, if_neg h9, if_neg h11, if_pos h13, if_neg h14]; try rfl) rfl rfl
                  · skip
                    refine am_split (fun h15 => ?_) (fun h15 => ?_)
                    · skip
                      refine am_call (eU_set_M (sI i (p + (rF_secondOf (rF_kindOf (rC_fetch i a p)) (rC_fetch i a p))) 11) a (rF_firstOf (rF_kindOf (rC_fetch i a p)) (rC_fetch i a p)) (p + (rF_sizeOf (rC_fetch i a p))) tl) ?_
                      exact am_ri (S := sM_stepInCode) (by unfold rM_stepInCode; simp only [if_neg h1, if_neg h2, if_pos h3, if_neg h4, if_neg h5, if_neg h7, if_neg h9, if_neg h11, if_neg h13, if_pos h15]; try rfl) (by unfold iM_stepInCode aM_stepInCode; simp only [if_neg h1, if_neg h2, if_pos h3, if_neg h4, if_neg h5, if_neg h7, if_neg h9, if_neg h11, if_neg h13, if_pos h15]; try rfl) rfl rfl
                    · skip
                      refine am_split (fun h16 => ?_) (fun h16 => ?_)
                      · skip
                        refine am_call (eU_get_M i a (rF_secondOf (rF_kindOf (rC_fetch i a p)) (rC_fetch i a p)) tl) ?_
                        refine am_call (eU_set_M (sI i (((rU_get_M i a (rF_secondOf (rF_kindOf (rC_fetch i a p)) (rC_fetch i a p))) + (rF_thirdOf (rF_kindOf (rC_fetch i a p)) (rC_fetch i a p))) &&& (-2 : Int32)) 11) a (rF_firstOf (rF_kindOf (rC_fetch i a p)) (rC_fetch i a p)) (p + (rF_sizeOf (rC_fetch i a p))) tl) ?_
                        exact am_ri (S := sM_stepInCode) (by unfold rM_stepInCode; simp only [if_neg h1, if_neg h2, if_pos h3, if_neg h4, if_neg h5, if_neg h7, if_neg h9, if_neg h11, if_neg h13, if_neg h15, if_pos h16]; try rfl) (by unfold iM_stepInCode aM_stepInCode; simp only [if_neg h1, if_neg h2, if_pos h3, if_neg h4, if_neg h5, if_neg h7, if_neg h9, if_neg h11, if_neg h13, if_neg h15, if_pos h16]; try rfl) rfl rfl
                      · skip
                        refine am_call (eU_compute_M i a (rF_kindOf (rC_fetch i a p)) (rF_firstOf (rF_kindOf (rC_fetch i a p)) (rC_fetch i a p)) (rF_secondOf (rF_kindOf (rC_fetch i a p)) (rC_fetch i a p)) (rF_thirdOf (rF_kindOf (rC_fetch i a p)) (rC_fetch i a p)) tl) ?_
                        exact am_ri (S := sM_stepInCode) (by unfold rM_stepInCode; simp only [if_neg h1, if_neg h2, if_pos h3, if_neg h4, if_neg h5, if_neg h7, if_neg h9, if_neg h11, if_neg h13, if_neg h15, if_neg h16]; try rfl) (by unfold iM_stepInCode aM_stepInCode; simp only [if_neg h1, if_neg h2, if_pos h3, if_neg h4, if_neg h5, if_neg h7, if_neg h9, if_neg h11, if_neg h13, if_neg h15, if_neg h16]; try rfl) rfl rfl
      · skip
        exact am_ri (S := sM_stepInCode) (by unfold rM_stepInCode; simp only [if_neg h1, if_neg h2, if_neg h3]; try rfl) (by unfold iM_stepInCode aM_stepInCode; simp only [if_neg h1, if_neg h2, if_neg h3]; try rfl) rfl rfl
noncomputable def rM_step (i : Nat → Int32) (a : Nat → Nat → Int32) : Int32 := if (i 11) = (0 : Int32) then (0 : Int32) else if (i 11) = (16 : Int32) then (0 : Int32) else if (i 11) = (32 : Int32) then (1 : Int32) else (rM_stepInCode i a (i 11))
noncomputable def iM_step (i : Nat → Int32) (a : Nat → Nat → Int32) : Nat → Int32 := if (i 11) = (0 : Int32) then (iM_comeBack (iU_readInput_M i a ) (aU_readInput_M i a ) ) else if (i 11) = (16 : Int32) then (iM_comeBack (iU_writeOutput_M i a ) (aU_writeOutput_M i a ) ) else if (i 11) = (32 : Int32) then i else (iM_stepInCode i a (i 11))
noncomputable def aM_step (i : Nat → Int32) (a : Nat → Nat → Int32) : Nat → Nat → Int32 := if (i 11) = (0 : Int32) then (aU_readInput_M i a ) else if (i 11) = (16 : Int32) then (aU_writeOutput_M i a ) else if (i 11) = (32 : Int32) then a else (aM_stepInCode i a (i 11))
set_option maxHeartbeats 4000000 in
set_option maxRecDepth 100000 in
theorem eM_step (i : Nat → Int32) (a : Nat → Nat → Int32) (tl : List am_Cl) : am_Ev sM_step [.ref 22] (wX i a tl) (some (.int (rM_step i a ))) (wX (iM_step i a ) (aM_step i a ) tl) := by
  refine am_Ev_of cwM_step rfl rfl rfl (am_wp_T gdM_step 400 ?_)
  refine am_split (fun h1 => ?_) (fun h1 => ?_)
  · skip
    refine am_call (eU_readInput_M i a  tl) ?_
    refine am_call (eM_comeBack (iU_readInput_M i a ) (aU_readInput_M i a )  tl) ?_
    exact am_ri (S := sM_step) (by unfold rM_step; simp only [if_pos h1]; try rfl) (by unfold iM_step aM_step; simp only [if_pos h1]; try rfl) rfl rfl
  · skip
    refine am_split (fun h2 => ?_) (fun h2 => ?_)
    · skip
      refine am_call (eU_writeOutput_M i a  tl) ?_
      refine am_call (eM_comeBack (iU_writeOutput_M i a ) (aU_writeOutput_M i a )  tl) ?_
      exact am_ri (S := sM_step) (by unfold rM_step; simp only [if_neg h1, if_pos h2]; try rfl) (by unfold iM_step aM_step; simp only [if_neg h1, if_pos h2]; try rfl) rfl rfl
    · skip
      refine am_split (fun h3 => ?_) (fun h3 => ?_)
      · skip
        exact am_ri (S := sM_step) (by unfold rM_step; simp only [if_neg h1, if_neg h2, if_pos h3]; try rfl) (by unfold iM_step aM_step; simp only [if_neg h1, if_neg h2, if_pos h3]; try rfl) rfl rfl
      · skip
        refine am_call (eM_stepInCode i a (i 11) tl) ?_
        exact am_ri (S := sM_step) (by unfold rM_step; simp only [if_neg h1, if_neg h2, if_neg h3]; try rfl) (by unfold iM_step aM_step; simp only [if_neg h1, if_neg h2, if_neg h3]; try rfl) rfl rfl
noncomputable def iT_begin (i : Nat → Int32) (a : Nat → Nat → Int32) : Nat → Int32 := (sI i (0 : Int32) 15)
set_option maxHeartbeats 4000000 in
set_option maxRecDepth 100000 in
theorem eT_begin (i : Nat → Int32) (a : Nat → Nat → Int32) (tl : List am_Cl) : am_Ev sT_begin [.ref 26] (wX i a tl) none (wX (iT_begin i a ) a tl) := by
  refine am_Ev_of cwT_begin rfl rfl rfl (am_wp_T gdT_begin 400 ?_)
  exact am_rv (S := sT_begin) rfl rfl
noncomputable def rT_serve (i : Nat → Int32) (a : Nat → Nat → Int32) (p q : Int32) : Int32 := if p = (2 : Int32) then (1 : Int32) else if p = (0 : Int32) then (0 : Int32) else (0 : Int32)
noncomputable def iT_serve (i : Nat → Int32) (a : Nat → Nat → Int32) (p q : Int32) : Nat → Int32 := if p = (2 : Int32) then i else if p = (0 : Int32) then (sI (iU_readInput_T i a ) q 15) else (sI (iU_writeOutput_T i a ) q 15)
noncomputable def aT_serve (i : Nat → Int32) (a : Nat → Nat → Int32) (p q : Int32) : Nat → Nat → Int32 := if p = (2 : Int32) then a else if p = (0 : Int32) then (aU_readInput_T i a ) else (aU_writeOutput_T i a )
set_option maxHeartbeats 4000000 in
set_option maxRecDepth 100000 in
theorem eT_serve (i : Nat → Int32) (a : Nat → Nat → Int32) (p q : Int32) (tl : List am_Cl) : am_Ev sT_serve [.ref 26, .int p, .int q] (wX i a tl) (some (.int (rT_serve i a p q))) (wX (iT_serve i a p q) (aT_serve i a p q) tl) := by
  refine am_Ev_of cwT_serve rfl rfl rfl (am_wp_T gdT_serve 400 ?_)
  refine am_split (fun h1 => ?_) (fun h1 => ?_)
  · skip
    exact am_ri (S := sT_serve) (by unfold rT_serve; simp only [if_pos h1]; try rfl) (by unfold iT_serve aT_serve; simp only [if_pos h1]; try rfl) rfl rfl
  · skip
    refine am_split (fun h2 => ?_) (fun h2 => ?_)
    · skip
      refine am_call (eU_readInput_T i a  tl) ?_
      exact am_ri (S := sT_serve) (by unfold rT_serve; simp only [if_neg h1, if_pos h2]; try rfl) (by unfold iT_serve aT_serve; simp only [if_neg h1, if_pos h2]; try rfl) rfl rfl
    · skip
      refine am_call (eU_writeOutput_T i a  tl) ?_
      exact am_ri (S := sT_serve) (by unfold rT_serve; simp only [if_neg h1, if_neg h2]; try rfl) (by unfold iT_serve aT_serve; simp only [if_neg h1, if_neg h2]; try rfl) rfl rfl
set_option maxHeartbeats 4000000 in
set_option maxRecDepth 100000 in
theorem eX_runnerOf_0 (i : Nat → Int32) (a : Nat → Nat → Int32) (tl : List am_Cl) : am_Ev sX_runnerOf [.ref 0, .int (0 : Int32)] (wX i a tl) (some (.ref 22)) (wX i a tl) := by
  refine am_Ev_of cwX_runnerOf rfl rfl rfl (am_wp_T gdX_runnerOf 400 ?_)
  refine am_split (fun _ => ?_) (fun hz => absurd (by decide) hz)
  exact am_ra (S := sX_runnerOf) rfl rfl rfl
set_option maxHeartbeats 4000000 in
set_option maxRecDepth 100000 in
theorem eX_runnerOf_1 (i : Nat → Int32) (a : Nat → Nat → Int32) (tl : List am_Cl) : am_Ev sX_runnerOf [.ref 0, .int (1 : Int32)] (wX i a tl) (some (.ref 26)) (wX i a tl) := by
  refine am_Ev_of cwX_runnerOf rfl rfl rfl (am_wp_T gdX_runnerOf 400 ?_)
  refine am_split (fun hz => absurd hz (by decide)) (fun _ => ?_)
  refine am_split (fun _ => ?_) (fun hz => absurd (by decide) hz)
  exact am_ra (S := sX_runnerOf) rfl rfl rfl
set_option maxHeartbeats 4000000 in
set_option maxRecDepth 100000 in
theorem eX_runnerOf_n (i : Nat → Int32) (a : Nat → Nat → Int32) (p : Int32) (tl : List am_Cl) (k0 : ¬ p = (0 : Int32)) (k1 : ¬ p = (1 : Int32)) : am_Ev sX_runnerOf [.ref 0, .int p] (wX i a tl) (some .null) (wX i a tl) := by
  refine am_Ev_of cwX_runnerOf rfl rfl rfl (am_wp_T gdX_runnerOf 400 ?_)
  refine am_split (fun hz => absurd hz k0) (fun _ => ?_)
  refine am_split (fun hz => absurd hz k1) (fun _ => ?_)
  exact am_ra (S := sX_runnerOf) rfl rfl rfl
noncomputable def rX_state_0 (i : Nat → Int32) (a : Nat → Nat → Int32) (q : Int32) : Int32 := if q = (0 : Int32) then (i 10) else if q = (1 : Int32) then (i 11) else if q = (2 : Int32) then (i 9) else (-1 : Int32)
set_option maxHeartbeats 4000000 in
set_option maxRecDepth 100000 in
theorem eX_state_0 (i : Nat → Int32) (a : Nat → Nat → Int32) (q : Int32) (tl : List am_Cl) : am_Ev sX_state [.ref 0, .int (0 : Int32), .int q] (wX i a tl) (some (.int (rX_state_0 i a q))) (wX i a tl) := by
  refine am_Ev_of cwX_state rfl rfl rfl (am_wp_T gdX_state 400 ?_)
  refine am_call (eX_runnerOf_0 i a  tl) ?_
  refine am_split (fun h1 => ?_) (fun h1 => ?_)
  · skip
    exact am_ri (S := sX_state) (by unfold rX_state_0; simp only [if_pos h1]; try rfl) rfl rfl rfl
  · skip
    refine am_split (fun h2 => ?_) (fun h2 => ?_)
    · skip
      exact am_ri (S := sX_state) (by unfold rX_state_0; simp only [if_neg h1, if_pos h2]; try rfl) rfl rfl rfl
    · skip
      refine am_split (fun h3 => ?_) (fun h3 => ?_)
      · skip
        exact am_ri (S := sX_state) (by unfold rX_state_0; simp only [if_neg h1, if_neg h2, if_pos h3]; try rfl) rfl rfl rfl
      · skip
        exact am_ri (S := sX_state) (by unfold rX_state_0; simp only [if_neg h1, if_neg h2, if_neg h3]; try rfl) rfl rfl rfl
noncomputable def rX_state_1 (i : Nat → Int32) (a : Nat → Nat → Int32) (q : Int32) : Int32 := if q = (0 : Int32) then (i 14) else if q = (1 : Int32) then (i 15) else if q = (2 : Int32) then (i 13) else (-1 : Int32)
set_option maxHeartbeats 4000000 in
set_option maxRecDepth 100000 in
theorem eX_state_1 (i : Nat → Int32) (a : Nat → Nat → Int32) (q : Int32) (tl : List am_Cl) : am_Ev sX_state [.ref 0, .int (1 : Int32), .int q] (wX i a tl) (some (.int (rX_state_1 i a q))) (wX i a tl) := by
  refine am_Ev_of cwX_state rfl rfl rfl (am_wp_T gdX_state 400 ?_)
  refine am_call (eX_runnerOf_1 i a  tl) ?_
  refine am_split (fun h1 => ?_) (fun h1 => ?_)
  · skip
    exact am_ri (S := sX_state) (by unfold rX_state_1; simp only [if_pos h1]; try rfl) rfl rfl rfl
  · skip
    refine am_split (fun h2 => ?_) (fun h2 => ?_)
    · skip
      exact am_ri (S := sX_state) (by unfold rX_state_1; simp only [if_neg h1, if_pos h2]; try rfl) rfl rfl rfl
    · skip
      refine am_split (fun h3 => ?_) (fun h3 => ?_)
      · skip
        exact am_ri (S := sX_state) (by unfold rX_state_1; simp only [if_neg h1, if_neg h2, if_pos h3]; try rfl) rfl rfl rfl
      · skip
        exact am_ri (S := sX_state) (by unfold rX_state_1; simp only [if_neg h1, if_neg h2, if_neg h3]; try rfl) rfl rfl rfl
noncomputable def rX_state_n (i : Nat → Int32) (a : Nat → Nat → Int32) (p q : Int32) : Int32 := (-1 : Int32)
set_option maxHeartbeats 4000000 in
set_option maxRecDepth 100000 in
theorem eX_state_n (i : Nat → Int32) (a : Nat → Nat → Int32) (p q : Int32) (tl : List am_Cl) (k0 : ¬ p = (0 : Int32)) (k1 : ¬ p = (1 : Int32)) : am_Ev sX_state [.ref 0, .int p, .int q] (wX i a tl) (some (.int (rX_state_n i a p q))) (wX i a tl) := by
  refine am_Ev_of cwX_state rfl rfl rfl (am_wp_T gdX_state 400 ?_)
  refine am_call (eX_runnerOf_n i a p tl  k0 k1) ?_
  exact am_ri (S := sX_state) rfl rfl rfl rfl
noncomputable def rX_output_0 (i : Nat → Int32) (a : Nat → Nat → Int32) (q : Int32) : Int32 := (rU_outputAt_M i a q)
set_option maxHeartbeats 4000000 in
set_option maxRecDepth 100000 in
theorem eX_output_0 (i : Nat → Int32) (a : Nat → Nat → Int32) (q : Int32) (tl : List am_Cl) : am_Ev sX_output [.ref 0, .int (0 : Int32), .int q] (wX i a tl) (some (.int (rX_output_0 i a q))) (wX i a tl) := by
  refine am_Ev_of cwX_output rfl rfl rfl (am_wp_T gdX_output 400 ?_)
  refine am_call (eX_runnerOf_0 i a  tl) ?_
  refine am_call (eU_outputAt_M i a q tl) ?_
  exact am_ri (S := sX_output) rfl rfl rfl rfl
noncomputable def rX_output_1 (i : Nat → Int32) (a : Nat → Nat → Int32) (q : Int32) : Int32 := (rU_outputAt_T i a q)
set_option maxHeartbeats 4000000 in
set_option maxRecDepth 100000 in
theorem eX_output_1 (i : Nat → Int32) (a : Nat → Nat → Int32) (q : Int32) (tl : List am_Cl) : am_Ev sX_output [.ref 0, .int (1 : Int32), .int q] (wX i a tl) (some (.int (rX_output_1 i a q))) (wX i a tl) := by
  refine am_Ev_of cwX_output rfl rfl rfl (am_wp_T gdX_output 400 ?_)
  refine am_call (eX_runnerOf_1 i a  tl) ?_
  refine am_call (eU_outputAt_T i a q tl) ?_
  exact am_ri (S := sX_output) rfl rfl rfl rfl
noncomputable def rX_output_n (i : Nat → Int32) (a : Nat → Nat → Int32) (p q : Int32) : Int32 := (0 : Int32)
set_option maxHeartbeats 4000000 in
set_option maxRecDepth 100000 in
theorem eX_output_n (i : Nat → Int32) (a : Nat → Nat → Int32) (p q : Int32) (tl : List am_Cl) (k0 : ¬ p = (0 : Int32)) (k1 : ¬ p = (1 : Int32)) : am_Ev sX_output [.ref 0, .int p, .int q] (wX i a tl) (some (.int (rX_output_n i a p q))) (wX i a tl) := by
  refine am_Ev_of cwX_output rfl rfl rfl (am_wp_T gdX_output 400 ?_)
  refine am_call (eX_runnerOf_n i a p tl  k0 k1) ?_
  exact am_ri (S := sX_output) rfl rfl rfl rfl
noncomputable def rX_register_0 (i : Nat → Int32) (a : Nat → Nat → Int32) (q : Int32) : Int32 := (rU_get_M i a q)
set_option maxHeartbeats 4000000 in
set_option maxRecDepth 100000 in
theorem eX_register_0 (i : Nat → Int32) (a : Nat → Nat → Int32) (q : Int32) (tl : List am_Cl) : am_Ev sX_register [.ref 0, .int (0 : Int32), .int q] (wX i a tl) (some (.int (rX_register_0 i a q))) (wX i a tl) := by
  refine am_Ev_of cwX_register rfl rfl rfl (am_wp_T gdX_register 400 ?_)
  refine am_call (eX_runnerOf_0 i a  tl) ?_
  refine am_call (eU_get_M i a q tl) ?_
  exact am_ri (S := sX_register) rfl rfl rfl rfl
noncomputable def rX_register_1 (i : Nat → Int32) (a : Nat → Nat → Int32) (q : Int32) : Int32 := (rU_get_T i a q)
set_option maxHeartbeats 4000000 in
set_option maxRecDepth 100000 in
theorem eX_register_1 (i : Nat → Int32) (a : Nat → Nat → Int32) (q : Int32) (tl : List am_Cl) : am_Ev sX_register [.ref 0, .int (1 : Int32), .int q] (wX i a tl) (some (.int (rX_register_1 i a q))) (wX i a tl) := by
  refine am_Ev_of cwX_register rfl rfl rfl (am_wp_T gdX_register 400 ?_)
  refine am_call (eX_runnerOf_1 i a  tl) ?_
  refine am_call (eU_get_T i a q tl) ?_
  exact am_ri (S := sX_register) rfl rfl rfl rfl
noncomputable def rX_register_n (i : Nat → Int32) (a : Nat → Nat → Int32) (p q : Int32) : Int32 := (0 : Int32)
set_option maxHeartbeats 4000000 in
set_option maxRecDepth 100000 in
theorem eX_register_n (i : Nat → Int32) (a : Nat → Nat → Int32) (p q : Int32) (tl : List am_Cl) (k0 : ¬ p = (0 : Int32)) (k1 : ¬ p = (1 : Int32)) : am_Ev sX_register [.ref 0, .int p, .int q] (wX i a tl) (some (.int (rX_register_n i a p q))) (wX i a tl) := by
  refine am_Ev_of cwX_register rfl rfl rfl (am_wp_T gdX_register 400 ?_)
  refine am_call (eX_runnerOf_n i a p tl  k0 k1) ?_
  exact am_ri (S := sX_register) rfl rfl rfl rfl
noncomputable def rX_word_0 (i : Nat → Int32) (a : Nat → Nat → Int32) (q : Int32) : Int32 := (rU_wordAt_M i a q)
set_option maxHeartbeats 4000000 in
set_option maxRecDepth 100000 in
theorem eX_word_0 (i : Nat → Int32) (a : Nat → Nat → Int32) (q : Int32) (tl : List am_Cl) : am_Ev sX_word [.ref 0, .int (0 : Int32), .int q] (wX i a tl) (some (.int (rX_word_0 i a q))) (wX i a tl) := by
  refine am_Ev_of cwX_word rfl rfl rfl (am_wp_T gdX_word 400 ?_)
  refine am_call (eX_runnerOf_0 i a  tl) ?_
  refine am_call (eU_wordAt_M i a q tl) ?_
  exact am_ri (S := sX_word) rfl rfl rfl rfl
noncomputable def rX_word_1 (i : Nat → Int32) (a : Nat → Nat → Int32) (q : Int32) : Int32 := (rU_wordAt_T i a q)
set_option maxHeartbeats 4000000 in
set_option maxRecDepth 100000 in
theorem eX_word_1 (i : Nat → Int32) (a : Nat → Nat → Int32) (q : Int32) (tl : List am_Cl) : am_Ev sX_word [.ref 0, .int (1 : Int32), .int q] (wX i a tl) (some (.int (rX_word_1 i a q))) (wX i a tl) := by
  refine am_Ev_of cwX_word rfl rfl rfl (am_wp_T gdX_word 400 ?_)
  refine am_call (eX_runnerOf_1 i a  tl) ?_
  refine am_call (eU_wordAt_T i a q tl) ?_
  exact am_ri (S := sX_word) rfl rfl rfl rfl
noncomputable def rX_word_n (i : Nat → Int32) (a : Nat → Nat → Int32) (p q : Int32) : Int32 := (0 : Int32)
set_option maxHeartbeats 4000000 in
set_option maxRecDepth 100000 in
theorem eX_word_n (i : Nat → Int32) (a : Nat → Nat → Int32) (p q : Int32) (tl : List am_Cl) (k0 : ¬ p = (0 : Int32)) (k1 : ¬ p = (1 : Int32)) : am_Ev sX_word [.ref 0, .int p, .int q] (wX i a tl) (some (.int (rX_word_n i a p q))) (wX i a tl) := by
  refine am_Ev_of cwX_word rfl rfl rfl (am_wp_T gdX_word 400 ?_)
  refine am_call (eX_runnerOf_n i a p tl  k0 k1) ?_
  exact am_ri (S := sX_word) rfl rfl rfl rfl
noncomputable def rX_encode (i : Nat → Int32) (a : Nat → Nat → Int32) (p q r s : Int32) : Int32 := if (rF_encodable p q r s) = (0 : Int32) then (-1 : Int32) else (rF_pack p q r s)
set_option maxHeartbeats 4000000 in
set_option maxRecDepth 100000 in
theorem eX_encode (i : Nat → Int32) (a : Nat → Nat → Int32) (p q r s : Int32) (tl : List am_Cl) : am_Ev sX_encode [.ref 0, .int p, .int q, .int r, .int s] (wX i a tl) (some (.int (rX_encode i a p q r s))) (wX i a tl) := by
  refine am_Ev_of cwX_encode rfl rfl rfl (am_wp_T gdX_encode 400 ?_)
  refine am_call (eF_encodable p q r s _) ?_
  refine am_split (fun h1 => ?_) (fun h1 => ?_)
  · skip
    exact am_ri (S := sX_encode) (by unfold rX_encode; simp only [if_pos h1]; try rfl) rfl rfl rfl
  · skip
    refine am_call (eF_pack p q r s _) ?_
    exact am_ri (S := sX_encode) (by unfold rX_encode; simp only [if_neg h1]; try rfl) rfl rfl rfl
noncomputable def rX_kind (i : Nat → Int32) (a : Nat → Nat → Int32) (p : Int32) : Int32 := (rF_kindOf p)
set_option maxHeartbeats 4000000 in
set_option maxRecDepth 100000 in
theorem eX_kind (i : Nat → Int32) (a : Nat → Nat → Int32) (p : Int32) (tl : List am_Cl) : am_Ev sX_kind [.ref 0, .int p] (wX i a tl) (some (.int (rX_kind i a p))) (wX i a tl) := by
  refine am_Ev_of cwX_kind rfl rfl rfl (am_wp_T gdX_kind 400 ?_)
  refine am_call (eF_kindOf p _) ?_
  exact am_ri (S := sX_kind) rfl rfl rfl rfl
noncomputable def rX_line (i : Nat → Int32) (a : Nat → Nat → Int32) (p q r s : Int32) : Int32 := if (rP_allows p q r s) = (0 : Int32) then (-1 : Int32) else if (rP_add i a p q r s) = (0 : Int32) then (-2 : Int32) else ((iP_add i a p q r s) 1)
noncomputable def iX_line (i : Nat → Int32) (a : Nat → Nat → Int32) (p q r s : Int32) : Nat → Int32 := if (rP_allows p q r s) = (0 : Int32) then i else if (rP_add i a p q r s) = (0 : Int32) then (iP_add i a p q r s) else (iP_add i a p q r s)
noncomputable def aX_line (i : Nat → Int32) (a : Nat → Nat → Int32) (p q r s : Int32) : Nat → Nat → Int32 := if (rP_allows p q r s) = (0 : Int32) then a else if (rP_add i a p q r s) = (0 : Int32) then (aP_add i a p q r s) else (aP_add i a p q r s)
set_option maxHeartbeats 4000000 in
set_option maxRecDepth 100000 in
theorem eX_line (i : Nat → Int32) (a : Nat → Nat → Int32) (p q r s : Int32) (tl : List am_Cl) : am_Ev sX_line [.ref 0, .int p, .int q, .int r, .int s] (wX i a tl) (some (.int (rX_line i a p q r s))) (wX (iX_line i a p q r s) (aX_line i a p q r s) tl) := by
  refine am_Ev_of cwX_line rfl rfl rfl (am_wp_T gdX_line 400 ?_)
  refine am_call (eP_allows p q r s _) ?_
  refine am_split (fun h1 => ?_) (fun h1 => ?_)
  · skip
    exact am_ri (S := sX_line) (by unfold rX_line; simp only [if_pos h1]; try rfl) (by unfold iX_line aX_line; simp only [if_pos h1]; try rfl) rfl rfl
  · skip
    refine am_call (eP_add i a p q r s tl) ?_
    refine am_split (fun h2 => ?_) (fun h2 => ?_)
    · skip
      exact am_ri (S := sX_line) (by unfold rX_line; simp only [if_neg h1, if_pos h2]; try rfl) (by unfold iX_line aX_line; simp only [if_neg h1, if_pos h2]; try rfl) rfl rfl
    · skip
      exact am_ri (S := sX_line) (by unfold rX_line; simp only [if_neg h1, if_neg h2]; try rfl) (by unfold iX_line aX_line; simp only [if_neg h1, if_neg h2]; try rfl) rfl rfl
noncomputable def rX_clear (i : Nat → Int32) (a : Nat → Nat → Int32) : Int32 := (i 1)
noncomputable def iX_clear (i : Nat → Int32) (a : Nat → Nat → Int32) : Nat → Int32 := (sI i (0 : Int32) 1)
set_option maxHeartbeats 4000000 in
set_option maxRecDepth 100000 in
theorem eX_clear (i : Nat → Int32) (a : Nat → Nat → Int32) (tl : List am_Cl) : am_Ev sX_clear [.ref 0] (wX i a tl) (some (.int (rX_clear i a ))) (wX (iX_clear i a ) a tl) := by
  refine am_Ev_of cwX_clear rfl rfl rfl (am_wp_T gdX_clear 400 ?_)
  exact am_ri (S := sX_clear) rfl rfl rfl rfl
noncomputable def rX_address (i : Nat → Int32) (a : Nat → Nat → Int32) (p : Int32) : Int32 := if (i 0) = (0 : Int32) then (-1 : Int32) else (rP_addressOf_b i a p)
set_option maxHeartbeats 4000000 in
set_option maxRecDepth 100000 in
theorem eX_address (i : Nat → Int32) (a : Nat → Nat → Int32) (p : Int32) (tl : List am_Cl) : am_Ev sX_address [.ref 0, .int p] (wX i a tl) (some (.int (rX_address i a p))) (wX i a tl) := by
  refine am_Ev_of cwX_address rfl rfl rfl (am_wp_T gdX_address 400 ?_)
  refine am_split (fun h1 => ?_) (fun h1 => ?_)
  · skip
    exact am_ri (S := sX_address) (by unfold rX_address; simp only [if_pos h1]; try rfl) rfl rfl rfl
  · skip
    refine am_call (eP_addressOf_b i a p tl) ?_
    exact am_ri (S := sX_address) (by unfold rX_address; simp only [if_neg h1]; try rfl) rfl rfl rfl
noncomputable def rX_poke (i : Nat → Int32) (a : Nat → Nat → Int32) (p q : Int32) : Int32 := (rC_put i a p q)
noncomputable def aX_poke (i : Nat → Int32) (a : Nat → Nat → Int32) (p q : Int32) : Nat → Nat → Int32 := (aC_put i a p q)
set_option maxHeartbeats 4000000 in
set_option maxRecDepth 100000 in
theorem eX_poke (i : Nat → Int32) (a : Nat → Nat → Int32) (p q : Int32) (tl : List am_Cl) : am_Ev sX_poke [.ref 0, .int p, .int q] (wX i a tl) (some (.int (rX_poke i a p q))) (wX i (aX_poke i a p q) tl) := by
  refine am_Ev_of cwX_poke rfl rfl rfl (am_wp_T gdX_poke 400 ?_)
  refine am_call (eC_put i a p q tl) ?_
  exact am_ri (S := sX_poke) rfl rfl rfl (am_nz (zoC_put i a p q))
theorem zoX_poke (i : Nat → Int32) (a : Nat → Nat → Int32) (p q : Int32) : rX_poke i a p q = 0 ∨ rX_poke i a p q = 1 := by
  unfold rX_poke
  repeat' (first | with_reducible refine zo_ite ?_ ?_ | with_reducible exact zoC_put .. | with_reducible exact Or.inl rfl | with_reducible exact Or.inr rfl)
noncomputable def rX_peek (i : Nat → Int32) (a : Nat → Nat → Int32) (p : Int32) : Int32 := if p = (-1 : Int32) then (i 5) else (rC_byteAt i a p)
set_option maxHeartbeats 4000000 in
set_option maxRecDepth 100000 in
theorem eX_peek (i : Nat → Int32) (a : Nat → Nat → Int32) (p : Int32) (tl : List am_Cl) : am_Ev sX_peek [.ref 0, .int p] (wX i a tl) (some (.int (rX_peek i a p))) (wX i a tl) := by
  refine am_Ev_of cwX_peek rfl rfl rfl (am_wp_T gdX_peek 400 ?_)
  refine am_split (fun h1 => ?_) (fun h1 => ?_)
  · skip
    exact am_ri (S := sX_peek) (by unfold rX_peek; simp only [if_pos h1]; try rfl) rfl rfl rfl
  · skip
    refine am_call (eC_byteAt i a p tl) ?_
    exact am_ri (S := sX_peek) (by unfold rX_peek; simp only [if_neg h1]; try rfl) rfl rfl rfl
noncomputable def rX_input (i : Nat → Int32) (a : Nat → Nat → Int32) (p : Int32) : Int32 := if (rI_add i a p) = (0 : Int32) then (-2 : Int32) else ((iI_add i a p) 7)
noncomputable def iX_input (i : Nat → Int32) (a : Nat → Nat → Int32) (p : Int32) : Nat → Int32 := if (rI_add i a p) = (0 : Int32) then (iI_add i a p) else (iI_add i a p)
noncomputable def aX_input (i : Nat → Int32) (a : Nat → Nat → Int32) (p : Int32) : Nat → Nat → Int32 := if (rI_add i a p) = (0 : Int32) then (aI_add i a p) else (aI_add i a p)
set_option maxHeartbeats 4000000 in
set_option maxRecDepth 100000 in
theorem eX_input (i : Nat → Int32) (a : Nat → Nat → Int32) (p : Int32) (tl : List am_Cl) : am_Ev sX_input [.ref 0, .int p] (wX i a tl) (some (.int (rX_input i a p))) (wX (iX_input i a p) (aX_input i a p) tl) := by
  refine am_Ev_of cwX_input rfl rfl rfl (am_wp_T gdX_input 400 ?_)
  refine am_call (eI_add i a p tl) ?_
  refine am_split (fun h1 => ?_) (fun h1 => ?_)
  · skip
    exact am_ri (S := sX_input) (by unfold rX_input; simp only [if_pos h1]; try rfl) (by unfold iX_input aX_input; simp only [if_pos h1]; try rfl) rfl rfl
  · skip
    exact am_ri (S := sX_input) (by unfold rX_input; simp only [if_neg h1]; try rfl) (by unfold iX_input aX_input; simp only [if_neg h1]; try rfl) rfl rfl

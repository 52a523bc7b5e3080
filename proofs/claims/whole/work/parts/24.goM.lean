noncomputable def rU_go_M_l : Nat → (Nat → Int32) → (Nat → Nat → Int32) → Int32 → Int32
  | 0, _, _, _ => 0
  | f + 1, i, a, n => if n ≤ (0 : Int32) then (0 : Int32) else if (rM_step i a ) = (0 : Int32) then (rU_go_M_l f (sI (iM_step i a ) (((iM_step i a ) 10) + (1 : Int32)) 10) (aM_step i a ) (n + (-1 : Int32))) else if (rM_step i a ) = (1 : Int32) then (rM_step i a ) else (rM_step i a )
noncomputable def iU_go_M_l : Nat → (Nat → Int32) → (Nat → Nat → Int32) → Int32 → Nat → Int32
  | 0, i, _, _ => i
  | f + 1, i, a, n => if n ≤ (0 : Int32) then i else if (rM_step i a ) = (0 : Int32) then (iU_go_M_l f (sI (iM_step i a ) (((iM_step i a ) 10) + (1 : Int32)) 10) (aM_step i a ) (n + (-1 : Int32))) else if (rM_step i a ) = (1 : Int32) then (sI (iM_step i a ) (((iM_step i a ) 10) + (1 : Int32)) 10) else (iM_step i a )
noncomputable def aU_go_M_l : Nat → (Nat → Int32) → (Nat → Nat → Int32) → Int32 → Nat → Nat → Int32
  | 0, _, a, _ => a
  | f + 1, i, a, n => if n ≤ (0 : Int32) then a else if (rM_step i a ) = (0 : Int32) then (aU_go_M_l f (sI (iM_step i a ) (((iM_step i a ) 10) + (1 : Int32)) 10) (aM_step i a ) (n + (-1 : Int32))) else if (rM_step i a ) = (1 : Int32) then (aM_step i a ) else (aM_step i a )
set_option maxHeartbeats 4000000 in
set_option maxRecDepth 100000 in
theorem tU_go_M_l (tl : List am_Cl) : ∀ (f : Nat) (i : Nat → Int32) (a : Nat → Nat → Int32) (n : Int32), (Int32.toInt n).toNat < f → am_T sU_go (some (.int (rU_go_M_l f i a n))) (wX (iU_go_M_l f i a n) (aU_go_M_l f i a n) tl) 10 [.ref 22, .retAddr 0, .int n, .retAddr 0] [] (wX i a tl) 0 0 := by
  intro f
  induction f with
  | zero => intro i a n hm; exact absurd hm (Nat.not_lt_zero _)
  | succ f ih =>
    intro i a n hm
    refine am_wu_T gdU_go [10] 400 ?_
    refine am_split (fun h1 => ?_) (fun h1 => ?_)
    · skip
      exact am_ri (x := (0 : Int32)) (S := sU_go) (congrArg (fun x => some (Value.int x)) (by rw [rU_go_M_l]; rw [if_pos h1])) (am_w2 (i2 := i) (a2 := a) (by rw [iU_go_M_l]; rw [if_pos h1]) (by rw [aU_go_M_l]; rw [if_pos h1]) rfl) rfl rfl
    · skip
      refine am_callg (eM_step i a  tl) (fun I1 A1 hI1 hA1 => ?_)
      refine am_split (fun h2 => ?_) (fun h2 => ?_)
      · skip
        refine am_split (fun _ => ?_) (fun hz => absurd h2 hz)
        exact am_Tc (am_Tw (ih (sI I1 ((I1 10) + (1 : Int32)) 10) A1 (n + (-1 : Int32)) (ms_dn (by assumption) hm)) ⟨Or.inr rfl, Or.inl rfl, Or.inr rfl, Or.inl rfl, trivial⟩) (congrArg (fun x => some (Value.int x)) (by rw [rU_go_M_l]; (try rw [← hI1]); (try rw [← hA1]); rw [if_neg h1, if_pos h2])) (am_w2 (by rw [iU_go_M_l]; (try rw [← hI1]); (try rw [← hA1]); rw [if_neg h1, if_pos h2]) (by rw [aU_go_M_l]; (try rw [← hI1]); (try rw [← hA1]); rw [if_neg h1, if_pos h2]) rfl)
      · skip
        refine am_split (fun h3 => ?_) (fun h3 => ?_)
        · skip
          refine am_split (fun hz => absurd hz h2) (fun _ => ?_)
          exact am_ri (x := (rM_step i a )) (S := sU_go) (congrArg (fun x => some (Value.int x)) (by rw [rU_go_M_l]; (try rw [← hI1]); (try rw [← hA1]); rw [if_neg h1, if_neg h2, if_pos h3])) (am_w2 (i2 := (sI I1 ((I1 10) + (1 : Int32)) 10)) (a2 := A1) (by rw [iU_go_M_l]; (try rw [← hI1]); (try rw [← hA1]); rw [if_neg h1, if_neg h2, if_pos h3]) (by rw [aU_go_M_l]; (try rw [← hI1]); (try rw [← hA1]); rw [if_neg h1, if_neg h2, if_pos h3]) rfl) rfl rfl
        · skip
          refine am_split (fun hz => absurd hz h2) (fun _ => ?_)
          exact am_ri (x := (rM_step i a )) (S := sU_go) (congrArg (fun x => some (Value.int x)) (by rw [rU_go_M_l]; (try rw [← hI1]); (try rw [← hA1]); rw [if_neg h1, if_neg h2, if_neg h3])) (am_w2 (i2 := I1) (a2 := A1) (by rw [iU_go_M_l]; (try rw [← hI1]); (try rw [← hA1]); rw [if_neg h1, if_neg h2, if_neg h3]) (by rw [aU_go_M_l]; (try rw [← hI1]); (try rw [← hA1]); rw [if_neg h1, if_neg h2, if_neg h3]) rfl) rfl rfl
noncomputable def rU_go_M (i : Nat → Int32) (a : Nat → Nat → Int32) (p : Int32) : Int32 := (rU_go_M_l ((Int32.toInt p).toNat + 1) (iM_begin (iU_forgetAll_M i a ) (aU_forgetAll_M i a ) ) (aM_begin (iU_forgetAll_M i a ) (aU_forgetAll_M i a ) ) p)
noncomputable def iU_go_M (i : Nat → Int32) (a : Nat → Nat → Int32) (p : Int32) : Nat → Int32 := (iU_go_M_l ((Int32.toInt p).toNat + 1) (iM_begin (iU_forgetAll_M i a ) (aU_forgetAll_M i a ) ) (aM_begin (iU_forgetAll_M i a ) (aU_forgetAll_M i a ) ) p)
noncomputable def aU_go_M (i : Nat → Int32) (a : Nat → Nat → Int32) (p : Int32) : Nat → Nat → Int32 := (aU_go_M_l ((Int32.toInt p).toNat + 1) (iM_begin (iU_forgetAll_M i a ) (aU_forgetAll_M i a ) ) (aM_begin (iU_forgetAll_M i a ) (aU_forgetAll_M i a ) ) p)
set_option maxHeartbeats 4000000 in
set_option maxRecDepth 100000 in
theorem eU_go_M (i : Nat → Int32) (a : Nat → Nat → Int32) (p : Int32) (tl : List am_Cl) : am_Ev sU_go [.ref 22, .int p] (wX i a tl) (some (.int (rU_go_M i a p))) (wX (iU_go_M i a p) (aU_go_M i a p) tl) := by
  refine am_Ev_of cwU_go rfl rfl rfl (am_wt_T gdU_go [10] 400 ?_)
  refine am_callg (eU_forgetAll_M i a  tl) (fun I1 A1 hI1 hA1 => ?_)
  refine am_callg (eM_begin I1 A1  tl) (fun I2 A2 hI2 hA2 => ?_)
  exact am_Tc (am_Tw (tU_go_M_l tl ((Int32.toInt p).toNat + 1) I2 A2 p (Nat.lt_add_one _) ) ⟨Or.inr rfl, Or.inl rfl, Or.inr rfl, Or.inl rfl, trivial⟩) (congrArg (fun x => some (Value.int x)) (by unfold rU_go_M; (try rw [← hI1]); (try rw [← hA1]); (try rw [← hI2]); (try rw [← hA2]); first | done | rfl)) (am_w2 (by unfold iU_go_M; (try rw [← hI1]); (try rw [← hA1]); (try rw [← hI2]); (try rw [← hA2]); first | done | rfl) (by unfold aU_go_M; (try rw [← hI1]); (try rw [← hA1]); (try rw [← hI2]); (try rw [← hA2]); first | done | rfl) rfl)
noncomputable def rX_run (i : Nat → Int32) (a : Nat → Nat → Int32) (p : Int32) : Int32 := if (rX_within p (0 : Int32) (2000 : Int32)) = (0 : Int32) then (-1 : Int32) else (rU_go_M i a p)
noncomputable def iX_run (i : Nat → Int32) (a : Nat → Nat → Int32) (p : Int32) : Nat → Int32 := if (rX_within p (0 : Int32) (2000 : Int32)) = (0 : Int32) then i else (iU_go_M i a p)
noncomputable def aX_run (i : Nat → Int32) (a : Nat → Nat → Int32) (p : Int32) : Nat → Nat → Int32 := if (rX_within p (0 : Int32) (2000 : Int32)) = (0 : Int32) then a else (aU_go_M i a p)
set_option maxHeartbeats 4000000 in
set_option maxRecDepth 100000 in
theorem eX_run (i : Nat → Int32) (a : Nat → Nat → Int32) (p : Int32) (tl : List am_Cl) : am_Ev sX_run [.ref 0, .int p] (wX i a tl) (some (.int (rX_run i a p))) (wX (iX_run i a p) (aX_run i a p) tl) := by
  refine am_Ev_of cwX_run rfl rfl rfl (am_wp_T gdX_run 400 ?_)
  refine am_call (eX_within p (0 : Int32) (2000 : Int32) _) ?_
  refine am_split (fun h1 => ?_) (fun h1 => ?_)
  · skip
    exact am_ri (x := (-1 : Int32)) (S := sX_run) (congrArg (fun x => some (Value.int x)) (by unfold rX_run; rw [if_pos h1])) (am_w2 (i2 := i) (a2 := a) (by unfold iX_run; rw [if_pos h1]) (by unfold aX_run; rw [if_pos h1]) rfl) rfl rfl
  · skip
    refine am_callg (eU_go_M i a p tl) (fun I1 A1 hI1 hA1 => ?_)
    exact am_ri (x := (rU_go_M i a p)) (S := sX_run) (congrArg (fun x => some (Value.int x)) (by unfold rX_run; (try rw [← hI1]); (try rw [← hA1]); rw [if_neg h1])) (am_w2 (i2 := I1) (a2 := A1) (by unfold iX_run; (try rw [← hI1]); (try rw [← hA1]); rw [if_neg h1]) (by unfold aX_run; (try rw [← hI1]); (try rw [← hA1]); rw [if_neg h1]) rfl) rfl rfl

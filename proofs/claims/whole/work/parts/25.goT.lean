/-! walks by program: the trial -/
theorem frU_readInput_T (i : Nat → Int32) (a : Nat → Nat → Int32) : iU_readInput_T i a 3 = i 3 := by
  unfold iU_readInput_T; repeat' split
  all_goals rfl
theorem frU_writeOutput_T (i : Nat → Int32) (a : Nat → Nat → Int32) : iU_writeOutput_T i a 3 = i 3 := by
  unfold iU_writeOutput_T; repeat' split
  all_goals rfl
theorem frT_serve (i : Nat → Int32) (a : Nat → Nat → Int32) (x y : Int32) : iT_serve i a x y 3 = i 3 := by
  unfold iT_serve; repeat' split
  all_goals first | rfl | exact (sI_ne rfl).trans (frU_readInput_T ..) | exact (sI_ne rfl).trans (frU_writeOutput_T ..)
theorem frT_leap (i : Nat → Int32) (a : Nat → Nat → Int32) (x y z : Int32) : iT_leap i a x y z 3 = i 3 := by
  unfold iT_leap; repeat' split
  all_goals rfl
theorem ite_at {c : Prop} {h : Decidable c} {f g : Nat → Int32} {q : Nat} {v : Int32} (h1 : f q = v) (h2 : g q = v) : (@ite (Nat → Int32) c h f g) q = v := by
  cases h with
  | isTrue z => exact h1
  | isFalse z => exact h2
theorem frT_step (i : Nat → Int32) (a : Nat → Nat → Int32) : iT_step i a 3 = i 3 := by
  unfold iT_step
  repeat' (first | with_reducible refine ite_at ?_ ?_ | with_reducible rfl | with_reducible exact sI_ne rfl | with_reducible exact frT_leap .. | with_reducible exact frT_serve ..)
theorem frT_begin (i : Nat → Int32) (a : Nat → Nat → Int32) : iT_begin i a 3 = i 3 := rfl
theorem frU_fa2 : ∀ (f : Nat) (i : Nat → Int32) (a : Nat → Nat → Int32) (n : Int32), iU_forgetAll_T_2 f i a n 3 = i 3 := by
  intro f
  induction f with
  | zero => intro i a n; rfl
  | succ f ih => intro i a n; rw [iU_forgetAll_T_2]; split; rfl; exact ih ..
theorem frU_fa1 : ∀ (f : Nat) (i : Nat → Int32) (a : Nat → Nat → Int32) (n : Int32), iU_forgetAll_T_1 f i a n 3 = i 3 := by
  intro f
  induction f with
  | zero => intro i a n; rfl
  | succ f ih => intro i a n; rw [iU_forgetAll_T_1]; split; exact frU_fa2 ..; exact ih ..
theorem frU_forgetAll_T (i : Nat → Int32) (a : Nat → Nat → Int32) : iU_forgetAll_T i a 3 = i 3 := by unfold iU_forgetAll_T; exact frU_fa1 ..
noncomputable def rU_go_T_l : Nat → (Nat → Int32) → (Nat → Nat → Int32) → Int32 → Int32
  | 0, _, _, _ => 0
  | f + 1, i, a, n => if n ≤ (0 : Int32) then (0 : Int32) else if (rT_step i a ) = (0 : Int32) then (rU_go_T_l f (sI (iT_step i a ) (((iT_step i a ) 14) + (1 : Int32)) 14) (aT_step i a ) (n + (-1 : Int32))) else if (rT_step i a ) = (1 : Int32) then (rT_step i a ) else (rT_step i a )
noncomputable def iU_go_T_l : Nat → (Nat → Int32) → (Nat → Nat → Int32) → Int32 → Nat → Int32
  | 0, i, _, _ => i
  | f + 1, i, a, n => if n ≤ (0 : Int32) then i else if (rT_step i a ) = (0 : Int32) then (iU_go_T_l f (sI (iT_step i a ) (((iT_step i a ) 14) + (1 : Int32)) 14) (aT_step i a ) (n + (-1 : Int32))) else if (rT_step i a ) = (1 : Int32) then (sI (iT_step i a ) (((iT_step i a ) 14) + (1 : Int32)) 14) else (iT_step i a )
noncomputable def aU_go_T_l : Nat → (Nat → Int32) → (Nat → Nat → Int32) → Int32 → Nat → Nat → Int32
  | 0, _, a, _ => a
  | f + 1, i, a, n => if n ≤ (0 : Int32) then a else if (rT_step i a ) = (0 : Int32) then (aU_go_T_l f (sI (iT_step i a ) (((iT_step i a ) 14) + (1 : Int32)) 14) (aT_step i a ) (n + (-1 : Int32))) else if (rT_step i a ) = (1 : Int32) then (aT_step i a ) else (aT_step i a )
set_option maxHeartbeats 4000000 in
set_option maxRecDepth 100000 in
theorem tU_go_T_l (tl : List am_Cl) : ∀ (f : Nat) (i : Nat → Int32) (a : Nat → Nat → Int32) (n : Int32), (Int32.toInt n).toNat < f → (i 3).toInt ≤ 1000 → am_T sU_go (some (.int (rU_go_T_l f i a n))) (wX (iU_go_T_l f i a n) (aU_go_T_l f i a n) tl) 10 [.ref 26, .retAddr 0, .int n, .retAddr 0] [] (wX i a tl) 0 0 := by
  intro f
  induction f with
  | zero => intro i a n hm; exact absurd hm (Nat.not_lt_zero _)
  | succ f ih =>
    intro i a n hm hc
    refine am_wu_T gdU_go [10] 400 ?_
    refine am_split (fun h1 => ?_) (fun h1 => ?_)
    · skip
      exact am_ri (x := (0 : Int32)) (S := sU_go) (congrArg (fun x => some (Value.int x)) (by rw [rU_go_T_l]; rw [if_pos h1])) (am_w2 (i2 := i) (a2 := a) (by rw [iU_go_T_l]; rw [if_pos h1]) (by rw [aU_go_T_l]; rw [if_pos h1]) rfl) rfl rfl
    · skip
      refine am_callg (eT_step i a  tl  (by assumption)) (fun I1 A1 hI1 hA1 => ?_)
      refine am_split (fun h2 => ?_) (fun h2 => ?_)
      · skip
        refine am_split (fun _ => ?_) (fun hz => absurd h2 hz)
        exact am_Tc (am_Tw (ih (sI I1 ((I1 14) + (1 : Int32)) 14) A1 (n + (-1 : Int32)) (ms_dn (by assumption) hm) (by show Int32.toInt (I1 3) ≤ 1000; rw [hI1, frT_step]; exact hc)) ⟨Or.inr rfl, Or.inl rfl, Or.inr rfl, Or.inl rfl, trivial⟩) (congrArg (fun x => some (Value.int x)) (by rw [rU_go_T_l]; (try rw [← hI1]); (try rw [← hA1]); rw [if_neg h1, if_pos h2])) (am_w2 (by rw [iU_go_T_l]; (try rw [← hI1]); (try rw [← hA1]); rw [if_neg h1, if_pos h2]) (by rw [aU_go_T_l]; (try rw [← hI1]); (try rw [← hA1]); rw [if_neg h1, if_pos h2]) rfl)
      · skip
        refine am_split (fun h3 => ?_) (fun h3 => ?_)
        · skip
          refine am_split (fun hz => absurd hz h2) (fun _ => ?_)
          exact am_ri (x := (rT_step i a )) (S := sU_go) (congrArg (fun x => some (Value.int x)) (by rw [rU_go_T_l]; (try rw [← hI1]); (try rw [← hA1]); rw [if_neg h1, if_neg h2, if_pos h3])) (am_w2 (i2 := (sI I1 ((I1 14) + (1 : Int32)) 14)) (a2 := A1) (by rw [iU_go_T_l]; (try rw [← hI1]); (try rw [← hA1]); rw [if_neg h1, if_neg h2, if_pos h3]) (by rw [aU_go_T_l]; (try rw [← hI1]); (try rw [← hA1]); rw [if_neg h1, if_neg h2, if_pos h3]) rfl) rfl rfl
        · skip
          refine am_split (fun hz => absurd hz h2) (fun _ => ?_)
          exact am_ri (x := (rT_step i a )) (S := sU_go) (congrArg (fun x => some (Value.int x)) (by rw [rU_go_T_l]; (try rw [← hI1]); (try rw [← hA1]); rw [if_neg h1, if_neg h2, if_neg h3])) (am_w2 (i2 := I1) (a2 := A1) (by rw [iU_go_T_l]; (try rw [← hI1]); (try rw [← hA1]); rw [if_neg h1, if_neg h2, if_neg h3]) (by rw [aU_go_T_l]; (try rw [← hI1]); (try rw [← hA1]); rw [if_neg h1, if_neg h2, if_neg h3]) rfl) rfl rfl
noncomputable def rU_go_T (i : Nat → Int32) (a : Nat → Nat → Int32) (p : Int32) : Int32 := (rU_go_T_l ((Int32.toInt p).toNat + 1) (iT_begin (iU_forgetAll_T i a ) (aU_forgetAll_T i a ) ) (aU_forgetAll_T i a ) p)
noncomputable def iU_go_T (i : Nat → Int32) (a : Nat → Nat → Int32) (p : Int32) : Nat → Int32 := (iU_go_T_l ((Int32.toInt p).toNat + 1) (iT_begin (iU_forgetAll_T i a ) (aU_forgetAll_T i a ) ) (aU_forgetAll_T i a ) p)
noncomputable def aU_go_T (i : Nat → Int32) (a : Nat → Nat → Int32) (p : Int32) : Nat → Nat → Int32 := (aU_go_T_l ((Int32.toInt p).toNat + 1) (iT_begin (iU_forgetAll_T i a ) (aU_forgetAll_T i a ) ) (aU_forgetAll_T i a ) p)
set_option maxHeartbeats 4000000 in
set_option maxRecDepth 100000 in
theorem eU_go_T (i : Nat → Int32) (a : Nat → Nat → Int32) (p : Int32) (tl : List am_Cl) (hc : (i 3).toInt ≤ 1000) : am_Ev sU_go [.ref 26, .int p] (wX i a tl) (some (.int (rU_go_T i a p))) (wX (iU_go_T i a p) (aU_go_T i a p) tl) := by
  refine am_Ev_of cwU_go rfl rfl rfl (am_wt_T gdU_go [10] 400 ?_)
  refine am_callg (eU_forgetAll_T i a  tl) (fun I1 A1 hI1 hA1 => ?_)
  refine am_callgi (eT_begin I1 A1  tl) (fun I2 hI2 => ?_)
  exact am_Tc (am_Tw (tU_go_T_l tl ((Int32.toInt p).toNat + 1) I2 A1 p (Nat.lt_add_one _) (by show Int32.toInt (I2 3) ≤ 1000; rw [hI2, frT_begin, hI1, frU_forgetAll_T]; exact hc)) ⟨Or.inr rfl, Or.inl rfl, Or.inr rfl, Or.inl rfl, trivial⟩) (congrArg (fun x => some (Value.int x)) (by unfold rU_go_T; (try rw [← hI1]); (try rw [← hA1]); (try rw [← hI2]); first | done | rfl)) (am_w2 (by unfold iU_go_T; (try rw [← hI1]); (try rw [← hA1]); (try rw [← hI2]); first | done | rfl) (by unfold aU_go_T; (try rw [← hI1]); (try rw [← hA1]); (try rw [← hI2]); first | done | rfl) rfl)
noncomputable def rX_trial (i : Nat → Int32) (a : Nat → Nat → Int32) (p : Int32) : Int32 := if (rX_within p (0 : Int32) (2000 : Int32)) = (0 : Int32) then (-1 : Int32) else (rU_go_T i a p)
noncomputable def iX_trial (i : Nat → Int32) (a : Nat → Nat → Int32) (p : Int32) : Nat → Int32 := if (rX_within p (0 : Int32) (2000 : Int32)) = (0 : Int32) then i else (iU_go_T i a p)
noncomputable def aX_trial (i : Nat → Int32) (a : Nat → Nat → Int32) (p : Int32) : Nat → Nat → Int32 := if (rX_within p (0 : Int32) (2000 : Int32)) = (0 : Int32) then a else (aU_go_T i a p)
set_option maxHeartbeats 4000000 in
set_option maxRecDepth 100000 in
theorem eX_trial (i : Nat → Int32) (a : Nat → Nat → Int32) (p : Int32) (tl : List am_Cl) (hc : (i 3).toInt ≤ 1000) : am_Ev sX_trial [.ref 0, .int p] (wX i a tl) (some (.int (rX_trial i a p))) (wX (iX_trial i a p) (aX_trial i a p) tl) := by
  refine am_Ev_of cwX_trial rfl rfl rfl (am_wp_T gdX_trial 400 ?_)
  refine am_call (eX_within p (0 : Int32) (2000 : Int32) _) ?_
  refine am_split (fun h1 => ?_) (fun h1 => ?_)
  · skip
    exact am_ri (x := (-1 : Int32)) (S := sX_trial) (congrArg (fun x => some (Value.int x)) (by unfold rX_trial; rw [if_pos h1])) (am_w2 (i2 := i) (a2 := a) (by unfold iX_trial; rw [if_pos h1]) (by unfold aX_trial; rw [if_pos h1]) rfl) rfl rfl
  · skip
    refine am_callg (eU_go_T i a p tl  (by assumption)) (fun I1 A1 hI1 hA1 => ?_)
    exact am_ri (x := (rU_go_T i a p)) (S := sX_trial) (congrArg (fun x => some (Value.int x)) (by unfold rX_trial; (try rw [← hI1]); (try rw [← hA1]); rw [if_neg h1])) (am_w2 (i2 := I1) (a2 := A1) (by unfold iX_trial; (try rw [← hI1]); (try rw [← hA1]); rw [if_neg h1]) (by unfold aX_trial; (try rw [← hI1]); (try rw [← hA1]); rw [if_neg h1]) rfl) rfl rfl

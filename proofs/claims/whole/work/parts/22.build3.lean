noncomputable def rX_build (i : Nat → Int32) (a : Nat → Nat → Int32) : Int32 := if (rP_targetsExist i a ) = (0 : Int32) then (-1 : Int32) else if (rL_place i a ) ≤ (256 : Int32) then ((iR_writeAll (sI (iP_copyFrom (iL_place i a ) (aL_place i a ) ) (1 : Int32) 0) (aP_copyFrom (iL_place i a ) (aL_place i a ) ) ) 5) else (-2 : Int32)
noncomputable def iX_build (i : Nat → Int32) (a : Nat → Nat → Int32) : Nat → Int32 := if (rP_targetsExist i a ) = (0 : Int32) then i else if (rL_place i a ) ≤ (256 : Int32) then (iR_writeAll (sI (iP_copyFrom (iL_place i a ) (aL_place i a ) ) (1 : Int32) 0) (aP_copyFrom (iL_place i a ) (aL_place i a ) ) ) else (iL_place i a )
noncomputable def aX_build (i : Nat → Int32) (a : Nat → Nat → Int32) : Nat → Nat → Int32 := if (rP_targetsExist i a ) = (0 : Int32) then a else if (rL_place i a ) ≤ (256 : Int32) then (aR_writeAll (sI (iP_copyFrom (iL_place i a ) (aL_place i a ) ) (1 : Int32) 0) (aP_copyFrom (iL_place i a ) (aL_place i a ) ) ) else (aL_place i a )
set_option maxHeartbeats 4000000 in
set_option maxRecDepth 100000 in
theorem eX_build (i : Nat → Int32) (a : Nat → Nat → Int32) (tl : List am_Cl) (hc : 0 ≤ (i 1).toInt) : am_Ev sX_build [.ref 0] (wX i a tl) (some (.int (rX_build i a ))) (wX (iX_build i a ) (aX_build i a ) tl) := by
  refine am_Ev_of cwX_build rfl rfl rfl (am_wp_T gdX_build 400 ?_)
  refine am_call (eP_targetsExist i a  tl) ?_
  refine am_split (fun h1 => ?_) (fun h1 => ?_)
  · skip
    exact am_ri (x := (-1 : Int32)) (S := sX_build) (congrArg (fun x => some (Value.int x)) (by unfold rX_build; rw [if_pos h1])) (am_w2 (i2 := i) (a2 := a) (by unfold iX_build; rw [if_pos h1]) (by unfold aX_build; rw [if_pos h1]) rfl) rfl rfl
  · skip
    refine am_callg (eL_place i a  tl) (fun I1 A1 hI1 hA1 => ?_)
    refine am_split (fun h2 => ?_) (fun h2 => ?_)
    · skip
      refine am_callg (eP_copyFrom I1 A1  tl) (fun I2 A2 hI2 hA2 => ?_)
      refine am_callg (eR_writeAll (sI I2 (1 : Int32) 0) A2  tl) (fun I3 A3 hI3 hA3 => ?_)
      exact am_ri (x := (I3 5)) (S := sX_build) (congrArg (fun x => some (Value.int x)) (by unfold rX_build; (try rw [← hI1]); (try rw [← hA1]); (try rw [← hI2]); (try rw [← hA2]); (try rw [← hI3]); (try rw [← hA3]); rw [if_neg h1, if_pos h2])) (am_w2 (i2 := I3) (a2 := A3) (by unfold iX_build; (try rw [← hI1]); (try rw [← hA1]); (try rw [← hI2]); (try rw [← hA2]); (try rw [← hI3]); (try rw [← hA3]); rw [if_neg h1, if_pos h2]) (by unfold aX_build; (try rw [← hI1]); (try rw [← hA1]); (try rw [← hI2]); (try rw [← hA2]); (try rw [← hI3]); (try rw [← hA3]); rw [if_neg h1, if_pos h2]) rfl) rfl rfl
    · skip
      exact am_ri (x := (-2 : Int32)) (S := sX_build) (congrArg (fun x => some (Value.int x)) (by unfold rX_build; (try rw [← hI1]); (try rw [← hA1]); rw [if_neg h1, if_neg h2])) (am_w2 (i2 := I1) (a2 := A1) (by unfold iX_build; (try rw [← hI1]); (try rw [← hA1]); rw [if_neg h1, if_neg h2]) (by unfold aX_build; (try rw [← hI1]); (try rw [← hA1]); rw [if_neg h1, if_neg h2]) rfl) rfl rfl

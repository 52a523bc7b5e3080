noncomputable def iR_writeAll (i : Nat → Int32) (a : Nat → Nat → Int32) : Nat → Int32 := (iR_writeAll_l ((Int32.toInt ((sI (iC_resize (iC_resize i a (0 : Int32)) (aC_resize i a (0 : Int32)) ((iC_resize i a (0 : Int32)) 4)) (48 : Int32) 6) 3) - Int32.toInt (0 : Int32)).toNat + 1) (sI (iC_resize (iC_resize i a (0 : Int32)) (aC_resize i a (0 : Int32)) ((iC_resize i a (0 : Int32)) 4)) (48 : Int32) 6) (aC_resize (iC_resize i a (0 : Int32)) (aC_resize i a (0 : Int32)) ((iC_resize i a (0 : Int32)) 4)) (0 : Int32))
noncomputable def aR_writeAll (i : Nat → Int32) (a : Nat → Nat → Int32) : Nat → Nat → Int32 := (aR_writeAll_l ((Int32.toInt ((sI (iC_resize (iC_resize i a (0 : Int32)) (aC_resize i a (0 : Int32)) ((iC_resize i a (0 : Int32)) 4)) (48 : Int32) 6) 3) - Int32.toInt (0 : Int32)).toNat + 1) (sI (iC_resize (iC_resize i a (0 : Int32)) (aC_resize i a (0 : Int32)) ((iC_resize i a (0 : Int32)) 4)) (48 : Int32) 6) (aC_resize (iC_resize i a (0 : Int32)) (aC_resize i a (0 : Int32)) ((iC_resize i a (0 : Int32)) 4)) (0 : Int32))
set_option maxHeartbeats 4000000 in
set_option maxRecDepth 100000 in
theorem eR_writeAll (i : Nat → Int32) (a : Nat → Nat → Int32) (tl : List am_Cl) : am_Ev sR_writeAll [.ref 17] (wX i a tl) none (wX (iR_writeAll i a ) (aR_writeAll i a ) tl) := by
  refine am_Ev_of cwR_writeAll rfl rfl rfl (am_wt_T gdR_writeAll [32] 400 ?_)
  refine am_callg (eC_resize i a (0 : Int32) tl) (fun I1 A1 hI1 hA1 => ?_)
  refine am_callg (eC_resize I1 A1 (I1 4) tl) (fun I2 A2 hI2 hA2 => ?_)
  exact am_Tc (am_Tw (tR_writeAll_l tl ((Int32.toInt ((sI I2 (48 : Int32) 6) 3) - Int32.toInt (0 : Int32)).toNat + 1) (sI I2 (48 : Int32) 6) A2 (0 : Int32) (Nat.lt_add_one _) ) ⟨Or.inr rfl, Or.inr rfl, trivial⟩) rfl (am_w2 (by unfold iR_writeAll; (try rw [← hI1]); (try rw [← hA1]); (try rw [← hI2]); (try rw [← hA2]); first | done | rfl) (by unfold aR_writeAll; (try rw [← hI1]); (try rw [← hA1]); (try rw [← hI2]); (try rw [← hA2]); first | done | rfl) rfl)
noncomputable def iP_copyFrom (i : Nat → Int32) (a : Nat → Nat → Int32) : Nat → Int32 := (sI (sI i (i 1) 3) (i 2) 4)
noncomputable def aP_copyFrom (i : Nat → Int32) (a : Nat → Nat → Int32) : Nat → Nat → Int32 := (sA (sA (sA (sA (sA (sA a (va_cpy (a 0) (a 6) 0 0 20) 6) (va_cpy (a 1) (a 7) 0 0 20) 7) (va_cpy (a 2) (a 8) 0 0 20) 8) (va_cpy (a 3) (a 9) 0 0 20) 9) (va_cpy (a 4) (a 10) 0 0 21) 10) (va_cpy (a 5) (a 11) 0 0 20) 11)
set_option maxHeartbeats 4000000 in
set_option maxRecDepth 100000 in
theorem eP_copyFrom (i : Nat → Int32) (a : Nat → Nat → Int32) (tl : List am_Cl) : am_Ev sP_copyFrom [.ref 8, .ref 1] (wX i a tl) none (wX (iP_copyFrom i a ) (aP_copyFrom i a ) tl) := by
  refine am_Ev_of cwP_copyFrom rfl rfl rfl (am_wp_T gdP_copyFrom 400 ?_)
  exact am_rv (S := sP_copyFrom) rfl rfl
noncomputable def rX_length (i : Nat → Int32) (a : Nat → Nat → Int32) (p : Int32) : Int32 := (rC_resize i a p)
noncomputable def iX_length (i : Nat → Int32) (a : Nat → Nat → Int32) (p : Int32) : Nat → Int32 := (iC_resize i a p)
noncomputable def aX_length (i : Nat → Int32) (a : Nat → Nat → Int32) (p : Int32) : Nat → Nat → Int32 := (aC_resize i a p)
set_option maxHeartbeats 4000000 in
set_option maxRecDepth 100000 in
theorem eX_length (i : Nat → Int32) (a : Nat → Nat → Int32) (p : Int32) (tl : List am_Cl) : am_Ev sX_length [.ref 0, .int p] (wX i a tl) (some (.int (rX_length i a p))) (wX (iX_length i a p) (aX_length i a p) tl) := by
  refine am_Ev_of cwX_length rfl rfl rfl (am_wp_T gdX_length 400 ?_)
  refine am_call (eC_resize i a p tl) ?_
  exact am_ri (S := sX_length) rfl rfl rfl (am_nz (zoC_resize i a p))
theorem zoX_length (i : Nat → Int32) (a : Nat → Nat → Int32) (p : Int32) : rX_length i a p = 0 ∨ rX_length i a p = 1 := by
  unfold rX_length
  repeat' (first | with_reducible refine zo_ite ?_ ?_ | with_reducible exact zoC_resize .. | with_reducible exact Or.inl rfl | with_reducible exact Or.inr rfl)
